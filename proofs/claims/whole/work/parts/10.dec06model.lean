theorem dX10_init_0 : decode cX10_init 0 = .ok (.aload_n 0, 1) := by decide +kernel
theorem dX10_init_1 : decode cX10_init 1 = .ok (.invokespecial 1, 3) := by decide +kernel
theorem dX10_init_4 : decode cX10_init 4 = .ok (.aload_n 0, 1) := by decide +kernel
theorem dX10_init_5 : decode cX10_init 5 = .ok (.sipush 160, 3) := by decide +kernel
theorem dX10_init_8 : decode cX10_init 8 = .ok (.newarray .int, 2) := by decide +kernel
theorem dX10_init_10 : decode cX10_init 10 = .ok (.putfield 9, 3) := by decide +kernel
theorem dX10_init_13 : decode cX10_init 13 = .ok (.aload_n 0, 1) := by decide +kernel
theorem dX10_init_14 : decode cX10_init 14 = .ok (.sipush 160, 3) := by decide +kernel
theorem dX10_init_17 : decode cX10_init 17 = .ok (.newarray .int, 2) := by decide +kernel
theorem dX10_init_19 : decode cX10_init 19 = .ok (.putfield 13, 3) := by decide +kernel
theorem dX10_init_22 : decode cX10_init 22 = .ok (.aload_n 0, 1) := by decide +kernel
theorem dX10_init_23 : decode cX10_init 23 = .ok (.sipush 160, 3) := by decide +kernel
theorem dX10_init_26 : decode cX10_init 26 = .ok (.newarray .int, 2) := by decide +kernel
theorem dX10_init_28 : decode cX10_init 28 = .ok (.putfield 16, 3) := by decide +kernel
theorem dX10_init_31 : decode cX10_init 31 = .ok (.aload_n 0, 1) := by decide +kernel
theorem dX10_init_32 : decode cX10_init 32 = .ok (.sipush 160, 3) := by decide +kernel
theorem dX10_init_35 : decode cX10_init 35 = .ok (.newarray .int, 2) := by decide +kernel
theorem dX10_init_37 : decode cX10_init 37 = .ok (.putfield 19, 3) := by decide +kernel
theorem dX10_init_40 : decode cX10_init 40 = .ok (.aload_n 0, 1) := by decide +kernel
theorem dX10_init_41 : decode cX10_init 41 = .ok (.sipush 160, 3) := by decide +kernel
theorem dX10_init_44 : decode cX10_init 44 = .ok (.newarray .int, 2) := by decide +kernel
theorem dX10_init_46 : decode cX10_init 46 = .ok (.putfield 22, 3) := by decide +kernel
theorem dX10_init_49 : decode cX10_init 49 = .ok (.aload_n 0, 1) := by decide +kernel
theorem dX10_init_50 : decode cX10_init 50 = .ok (.sipush 160, 3) := by decide +kernel
theorem dX10_init_53 : decode cX10_init 53 = .ok (.newarray .int, 2) := by decide +kernel
theorem dX10_init_55 : decode cX10_init 55 = .ok (.putfield 25, 3) := by decide +kernel
theorem dX10_init_58 : decode cX10_init 58 = .ok (.aload_n 0, 1) := by decide +kernel
theorem dX10_init_59 : decode cX10_init 59 = .ok (.iconst 2, 1) := by decide +kernel
theorem dX10_init_60 : decode cX10_init 60 = .ok (.newarray .int, 2) := by decide +kernel
theorem dX10_init_62 : decode cX10_init 62 = .ok (.putfield 28, 3) := by decide +kernel
theorem dX10_init_65 : decode cX10_init 65 = .ok (.aload_n 0, 1) := by decide +kernel
theorem dX10_init_66 : decode cX10_init 66 = .ok (.iconst 5, 1) := by decide +kernel
theorem dX10_init_67 : decode cX10_init 67 = .ok (.putfield 31, 3) := by decide +kernel
theorem dX10_init_70 : decode cX10_init 70 = .ok (.aload_n 0, 1) := by decide +kernel
theorem dX10_init_71 : decode cX10_init 71 = .ok (.sipush 200, 3) := by decide +kernel
theorem dX10_init_74 : decode cX10_init 74 = .ok (.newarray .int, 2) := by decide +kernel
theorem dX10_init_76 : decode cX10_init 76 = .ok (.putfield 35, 3) := by decide +kernel
theorem dX10_init_79 : decode cX10_init 79 = .ok (.aload_n 0, 1) := by decide +kernel
theorem dX10_init_80 : decode cX10_init 80 = .ok (.sipush 1600, 3) := by decide +kernel
theorem dX10_init_83 : decode cX10_init 83 = .ok (.newarray .int, 2) := by decide +kernel
theorem dX10_init_85 : decode cX10_init 85 = .ok (.putfield 38, 3) := by decide +kernel
theorem dX10_init_88 : decode cX10_init 88 = .ok (.aload_n 0, 1) := by decide +kernel
theorem dX10_init_89 : decode cX10_init 89 = .ok (.sipush 200, 3) := by decide +kernel
theorem dX10_init_92 : decode cX10_init 92 = .ok (.newarray .int, 2) := by decide +kernel
theorem dX10_init_94 : decode cX10_init 94 = .ok (.putfield 41, 3) := by decide +kernel
theorem dX10_init_97 : decode cX10_init 97 = .ok (.aload_n 0, 1) := by decide +kernel
theorem dX10_init_98 : decode cX10_init 98 = .ok (.sipush 200, 3) := by decide +kernel
theorem dX10_init_101 : decode cX10_init 101 = .ok (.newarray .int, 2) := by decide +kernel
theorem dX10_init_103 : decode cX10_init 103 = .ok (.putfield 44, 3) := by decide +kernel
theorem dX10_init_106 : decode cX10_init 106 = .ok (.aload_n 0, 1) := by decide +kernel
theorem dX10_init_107 : decode cX10_init 107 = .ok (.sipush 200, 3) := by decide +kernel
theorem dX10_init_110 : decode cX10_init 110 = .ok (.newarray .int, 2) := by decide +kernel
theorem dX10_init_112 : decode cX10_init 112 = .ok (.putfield 47, 3) := by decide +kernel
theorem dX10_init_115 : decode cX10_init 115 = .ok (.aload_n 0, 1) := by decide +kernel
theorem dX10_init_116 : decode cX10_init 116 = .ok (.sipush 200, 3) := by decide +kernel
theorem dX10_init_119 : decode cX10_init 119 = .ok (.newarray .boolean, 2) := by decide +kernel
theorem dX10_init_121 : decode cX10_init 121 = .ok (.putfield 50, 3) := by decide +kernel
theorem dX10_init_124 : decode cX10_init 124 = .ok (.aload_n 0, 1) := by decide +kernel
theorem dX10_init_125 : decode cX10_init 125 = .ok (.bipush 14, 2) := by decide +kernel
theorem dX10_init_127 : decode cX10_init 127 = .ok (.newarray .int, 2) := by decide +kernel
theorem dX10_init_129 : decode cX10_init 129 = .ok (.putfield 54, 3) := by decide +kernel
theorem dX10_init_132 : decode cX10_init 132 = .ok (.aload_n 0, 1) := by decide +kernel
theorem dX10_init_133 : decode cX10_init 133 = .ok (.bipush 14, 2) := by decide +kernel
theorem dX10_init_135 : decode cX10_init 135 = .ok (.newarray .int, 2) := by decide +kernel
theorem dX10_init_137 : decode cX10_init 137 = .ok (.putfield 57, 3) := by decide +kernel
theorem dX10_init_140 : decode cX10_init 140 = .ok (.aload_n 0, 1) := by decide +kernel
theorem dX10_init_141 : decode cX10_init 141 = .ok (.sipush 196, 3) := by decide +kernel
theorem dX10_init_144 : decode cX10_init 144 = .ok (.newarray .int, 2) := by decide +kernel
theorem dX10_init_146 : decode cX10_init 146 = .ok (.putfield 60, 3) := by decide +kernel
theorem dX10_init_149 : decode cX10_init 149 = .ok (.aload_n 0, 1) := by decide +kernel
theorem dX10_init_150 : decode cX10_init 150 = .ok (.ldc 63, 2) := by decide +kernel
theorem dX10_init_152 : decode cX10_init 152 = .ok (.newarray .int, 2) := by decide +kernel
theorem dX10_init_154 : decode cX10_init 154 = .ok (.putfield 64, 3) := by decide +kernel
theorem dX10_init_157 : decode cX10_init 157 = .ok (.aload_n 0, 1) := by decide +kernel
theorem dX10_init_158 : decode cX10_init 158 = .ok (.bipush 14, 2) := by decide +kernel
theorem dX10_init_160 : decode cX10_init 160 = .ok (.newarray .int, 2) := by decide +kernel
theorem dX10_init_162 : decode cX10_init 162 = .ok (.putfield 67, 3) := by decide +kernel
theorem dX10_init_165 : decode cX10_init 165 = .ok (.aload_n 0, 1) := by decide +kernel
theorem dX10_init_166 : decode cX10_init 166 = .ok (.bipush 14, 2) := by decide +kernel
theorem dX10_init_168 : decode cX10_init 168 = .ok (.newarray .boolean, 2) := by decide +kernel
theorem dX10_init_170 : decode cX10_init 170 = .ok (.putfield 70, 3) := by decide +kernel
theorem dX10_init_173 : decode cX10_init 173 = .ok (.aload_n 0, 1) := by decide +kernel
theorem dX10_init_174 : decode cX10_init 174 = .ok (.iconst (-1), 1) := by decide +kernel
theorem dX10_init_175 : decode cX10_init 175 = .ok (.putfield 73, 3) := by decide +kernel
theorem dX10_init_178 : decode cX10_init 178 = .ok (.aload_n 0, 1) := by decide +kernel
theorem dX10_init_179 : decode cX10_init 179 = .ok (.iconst (-1), 1) := by decide +kernel
theorem dX10_init_180 : decode cX10_init 180 = .ok (.putfield 76, 3) := by decide +kernel
theorem dX10_init_183 : decode cX10_init 183 = .ok (.aload_n 0, 1) := by decide +kernel
theorem dX10_init_184 : decode cX10_init 184 = .ok (.bipush 14, 2) := by decide +kernel
theorem dX10_init_186 : decode cX10_init 186 = .ok (.newarray .int, 2) := by decide +kernel
theorem dX10_init_188 : decode cX10_init 188 = .ok (.putfield 79, 3) := by decide +kernel
theorem dX10_init_191 : decode cX10_init 191 = .ok (.aload_n 0, 1) := by decide +kernel
theorem dX10_init_192 : decode cX10_init 192 = .ok (.sipush 5000, 3) := by decide +kernel
theorem dX10_init_195 : decode cX10_init 195 = .ok (.newarray .int, 2) := by decide +kernel
theorem dX10_init_197 : decode cX10_init 197 = .ok (.putfield 82, 3) := by decide +kernel
theorem dX10_init_200 : decode cX10_init 200 = .ok (.aload_n 0, 1) := by decide +kernel
theorem dX10_init_201 : decode cX10_init 201 = .ok (.sipush 20000, 3) := by decide +kernel
theorem dX10_init_204 : decode cX10_init 204 = .ok (.newarray .int, 2) := by decide +kernel
theorem dX10_init_206 : decode cX10_init 206 = .ok (.putfield 85, 3) := by decide +kernel
theorem dX10_init_209 : decode cX10_init 209 = .ok (.aload_n 0, 1) := by decide +kernel
theorem dX10_init_210 : decode cX10_init 210 = .ok (.iconst 4, 1) := by decide +kernel
theorem dX10_init_211 : decode cX10_init 211 = .ok (.newarray .int, 2) := by decide +kernel
theorem dX10_init_213 : decode cX10_init 213 = .ok (.putfield 88, 3) := by decide +kernel
theorem dX10_init_216 : decode cX10_init 216 = .ok (.aload_n 0, 1) := by decide +kernel
theorem dX10_init_217 : decode cX10_init 217 = .ok (.bipush 18, 2) := by decide +kernel
theorem dX10_init_219 : decode cX10_init 219 = .ok (.newarray .int, 2) := by decide +kernel
theorem dX10_init_221 : decode cX10_init 221 = .ok (.putfield 91, 3) := by decide +kernel
theorem dX10_init_224 : decode cX10_init 224 = .ok (.aload_n 0, 1) := by decide +kernel
theorem dX10_init_225 : decode cX10_init 225 = .ok (.bipush 18, 2) := by decide +kernel
theorem dX10_init_227 : decode cX10_init 227 = .ok (.newarray .int, 2) := by decide +kernel
theorem dX10_init_229 : decode cX10_init 229 = .ok (.putfield 94, 3) := by decide +kernel
theorem dX10_init_232 : decode cX10_init 232 = .ok (.aload_n 0, 1) := by decide +kernel
theorem dX10_init_233 : decode cX10_init 233 = .ok (.bipush 18, 2) := by decide +kernel
theorem dX10_init_235 : decode cX10_init 235 = .ok (.newarray .long, 2) := by decide +kernel
theorem dX10_init_237 : decode cX10_init 237 = .ok (.putfield 97, 3) := by decide +kernel
theorem dX10_init_240 : decode cX10_init 240 = .ok (.aload_n 0, 1) := by decide +kernel
theorem dX10_init_241 : decode cX10_init 241 = .ok (.bipush 18, 2) := by decide +kernel
theorem dX10_init_243 : decode cX10_init 243 = .ok (.newarray .int, 2) := by decide +kernel
theorem dX10_init_245 : decode cX10_init 245 = .ok (.putfield 101, 3) := by decide +kernel
theorem dX10_init_248 : decode cX10_init 248 = .ok (.aload_n 0, 1) := by decide +kernel
theorem dX10_init_249 : decode cX10_init 249 = .ok (.bipush 18, 2) := by decide +kernel
theorem dX10_init_251 : decode cX10_init 251 = .ok (.newarray .int, 2) := by decide +kernel
theorem dX10_init_253 : decode cX10_init 253 = .ok (.putfield 104, 3) := by decide +kernel
theorem dX10_init_256 : decode cX10_init 256 = .ok (.aload_n 0, 1) := by decide +kernel
theorem dX10_init_257 : decode cX10_init 257 = .ok (.bipush 60, 2) := by decide +kernel
theorem dX10_init_259 : decode cX10_init 259 = .ok (.newarray .int, 2) := by decide +kernel
theorem dX10_init_261 : decode cX10_init 261 = .ok (.putfield 107, 3) := by decide +kernel
theorem dX10_init_264 : decode cX10_init 264 = .ok (.aload_n 0, 1) := by decide +kernel
theorem dX10_init_265 : decode cX10_init 265 = .ok (.bipush 60, 2) := by decide +kernel
theorem dX10_init_267 : decode cX10_init 267 = .ok (.newarray .int, 2) := by decide +kernel
theorem dX10_init_269 : decode cX10_init 269 = .ok (.putfield 110, 3) := by decide +kernel
theorem dX10_init_272 : decode cX10_init 272 = .ok (.aload_n 0, 1) := by decide +kernel
theorem dX10_init_273 : decode cX10_init 273 = .ok (.bipush 60, 2) := by decide +kernel
theorem dX10_init_275 : decode cX10_init 275 = .ok (.newarray .int, 2) := by decide +kernel
theorem dX10_init_277 : decode cX10_init 277 = .ok (.putfield 113, 3) := by decide +kernel
theorem dX10_init_280 : decode cX10_init 280 = .ok (.return_, 1) := by decide +kernel
theorem dX10_within_0 : decode cX10_within 0 = .ok (.iload_n 0, 1) := by decide +kernel
theorem dX10_within_1 : decode cX10_within 1 = .ok (.iload_n 1, 1) := by decide +kernel
theorem dX10_within_2 : decode cX10_within 2 = .ok (.if_icmp .lt 12, 3) := by decide +kernel
theorem dX10_within_5 : decode cX10_within 5 = .ok (.iload_n 0, 1) := by decide +kernel
theorem dX10_within_6 : decode cX10_within 6 = .ok (.iload_n 2, 1) := by decide +kernel
theorem dX10_within_7 : decode cX10_within 7 = .ok (.if_icmp .gt 7, 3) := by decide +kernel
theorem dX10_within_10 : decode cX10_within 10 = .ok (.iconst 1, 1) := by decide +kernel
theorem dX10_within_11 : decode cX10_within 11 = .ok (.goto 4, 3) := by decide +kernel
theorem dX10_within_14 : decode cX10_within 14 = .ok (.iconst 0, 1) := by decide +kernel
theorem dX10_within_15 : decode cX10_within 15 = .ok (.ireturn, 1) := by decide +kernel
theorem dX10_isLine_0 : decode cX10_isLine 0 = .ok (.iload_n 1, 1) := by decide +kernel
theorem dX10_isLine_1 : decode cX10_isLine 1 = .ok (.iconst 0, 1) := by decide +kernel
theorem dX10_isLine_2 : decode cX10_isLine 2 = .ok (.iconst 1, 1) := by decide +kernel
theorem dX10_isLine_3 : decode cX10_isLine 3 = .ok (.invokestatic 116, 3) := by decide +kernel
theorem dX10_isLine_6 : decode cX10_isLine 6 = .ok (.ifCond .eq 21, 3) := by decide +kernel
theorem dX10_isLine_9 : decode cX10_isLine 9 = .ok (.iload_n 2, 1) := by decide +kernel
theorem dX10_isLine_10 : decode cX10_isLine 10 = .ok (.ifCond .lt 17, 3) := by decide +kernel
theorem dX10_isLine_13 : decode cX10_isLine 13 = .ok (.iload_n 2, 1) := by decide +kernel
theorem dX10_isLine_14 : decode cX10_isLine 14 = .ok (.aload_n 0, 1) := by decide +kernel
theorem dX10_isLine_15 : decode cX10_isLine 15 = .ok (.getfield 28, 3) := by decide +kernel
theorem dX10_isLine_18 : decode cX10_isLine 18 = .ok (.iload_n 1, 1) := by decide +kernel
theorem dX10_isLine_19 : decode cX10_isLine 19 = .ok (.iaload, 1) := by decide +kernel
theorem dX10_isLine_20 : decode cX10_isLine 20 = .ok (.if_icmp .ge 7, 3) := by decide +kernel
theorem dX10_isLine_23 : decode cX10_isLine 23 = .ok (.iconst 1, 1) := by decide +kernel
theorem dX10_isLine_24 : decode cX10_isLine 24 = .ok (.goto 4, 3) := by decide +kernel
theorem dX10_isLine_27 : decode cX10_isLine 27 = .ok (.iconst 0, 1) := by decide +kernel
theorem dX10_isLine_28 : decode cX10_isLine 28 = .ok (.ireturn, 1) := by decide +kernel
theorem dX10_isThere_0 : decode cX10_isThere 0 = .ok (.iload_n 1, 1) := by decide +kernel
theorem dX10_isThere_1 : decode cX10_isThere 1 = .ok (.ifCond .lt 24, 3) := by decide +kernel
theorem dX10_isThere_4 : decode cX10_isThere 4 = .ok (.iload_n 1, 1) := by decide +kernel
theorem dX10_isThere_5 : decode cX10_isThere 5 = .ok (.aload_n 0, 1) := by decide +kernel
theorem dX10_isThere_6 : decode cX10_isThere 6 = .ok (.getfield 120, 3) := by decide +kernel
theorem dX10_isThere_9 : decode cX10_isThere 9 = .ok (.if_icmp .ge 16, 3) := by decide +kernel
theorem dX10_isThere_12 : decode cX10_isThere 12 = .ok (.aload_n 0, 1) := by decide +kernel
theorem dX10_isThere_13 : decode cX10_isThere 13 = .ok (.getfield 47, 3) := by decide +kernel
theorem dX10_isThere_16 : decode cX10_isThere 16 = .ok (.iload_n 1, 1) := by decide +kernel
theorem dX10_isThere_17 : decode cX10_isThere 17 = .ok (.iaload, 1) := by decide +kernel
theorem dX10_isThere_18 : decode cX10_isThere 18 = .ok (.ifCond .ge 7, 3) := by decide +kernel
theorem dX10_isThere_21 : decode cX10_isThere 21 = .ok (.iconst 1, 1) := by decide +kernel
theorem dX10_isThere_22 : decode cX10_isThere 22 = .ok (.goto 4, 3) := by decide +kernel
theorem dX10_isThere_25 : decode cX10_isThere 25 = .ok (.iconst 0, 1) := by decide +kernel
theorem dX10_isThere_26 : decode cX10_isThere 26 = .ok (.ireturn, 1) := by decide +kernel
theorem dX10_did_0 : decode cX10_did 0 = .ok (.aload_n 0, 1) := by decide +kernel
theorem dX10_did_1 : decode cX10_did 1 = .ok (.iconst 0, 1) := by decide +kernel
theorem dX10_did_2 : decode cX10_did 2 = .ok (.putfield 123, 3) := by decide +kernel
theorem dX10_did_5 : decode cX10_did 5 = .ok (.aload_n 0, 1) := by decide +kernel
theorem dX10_did_6 : decode cX10_did 6 = .ok (.iconst 0, 1) := by decide +kernel
theorem dX10_did_7 : decode cX10_did 7 = .ok (.putfield 127, 3) := by decide +kernel
theorem dX10_did_10 : decode cX10_did 10 = .ok (.aload_n 0, 1) := by decide +kernel
theorem dX10_did_11 : decode cX10_did 11 = .ok (.getfield 130, 3) := by decide +kernel
theorem dX10_did_14 : decode cX10_did 14 = .ok (.bipush 60, 2) := by decide +kernel
theorem dX10_did_16 : decode cX10_did 16 = .ok (.if_icmp .ne 77, 3) := by decide +kernel
theorem dX10_did_19 : decode cX10_did 19 = .ok (.iconst 1, 1) := by decide +kernel
theorem dX10_did_20 : decode cX10_did 20 = .ok (.istore 4, 2) := by decide +kernel
theorem dX10_did_22 : decode cX10_did 22 = .ok (.iload 4, 2) := by decide +kernel
theorem dX10_did_24 : decode cX10_did 24 = .ok (.bipush 60, 2) := by decide +kernel
theorem dX10_did_26 : decode cX10_did 26 = .ok (.if_icmp .ge 57, 3) := by decide +kernel
theorem dX10_did_29 : decode cX10_did 29 = .ok (.aload_n 0, 1) := by decide +kernel
theorem dX10_did_30 : decode cX10_did 30 = .ok (.getfield 107, 3) := by decide +kernel
theorem dX10_did_33 : decode cX10_did 33 = .ok (.iload 4, 2) := by decide +kernel
theorem dX10_did_35 : decode cX10_did 35 = .ok (.iconst 1, 1) := by decide +kernel
theorem dX10_did_36 : decode cX10_did 36 = .ok (.isub, 1) := by decide +kernel
theorem dX10_did_37 : decode cX10_did 37 = .ok (.aload_n 0, 1) := by decide +kernel
theorem dX10_did_38 : decode cX10_did 38 = .ok (.getfield 107, 3) := by decide +kernel
theorem dX10_did_41 : decode cX10_did 41 = .ok (.iload 4, 2) := by decide +kernel
theorem dX10_did_43 : decode cX10_did 43 = .ok (.iaload, 1) := by decide +kernel
theorem dX10_did_44 : decode cX10_did 44 = .ok (.iastore, 1) := by decide +kernel
theorem dX10_did_45 : decode cX10_did 45 = .ok (.aload_n 0, 1) := by decide +kernel
theorem dX10_did_46 : decode cX10_did 46 = .ok (.getfield 110, 3) := by decide +kernel
theorem dX10_did_49 : decode cX10_did 49 = .ok (.iload 4, 2) := by decide +kernel
theorem dX10_did_51 : decode cX10_did 51 = .ok (.iconst 1, 1) := by decide +kernel
theorem dX10_did_52 : decode cX10_did 52 = .ok (.isub, 1) := by decide +kernel
theorem dX10_did_53 : decode cX10_did 53 = .ok (.aload_n 0, 1) := by decide +kernel
theorem dX10_did_54 : decode cX10_did 54 = .ok (.getfield 110, 3) := by decide +kernel
theorem dX10_did_57 : decode cX10_did 57 = .ok (.iload 4, 2) := by decide +kernel
theorem dX10_did_59 : decode cX10_did 59 = .ok (.iaload, 1) := by decide +kernel
theorem dX10_did_60 : decode cX10_did 60 = .ok (.iastore, 1) := by decide +kernel
theorem dX10_did_61 : decode cX10_did 61 = .ok (.aload_n 0, 1) := by decide +kernel
theorem dX10_did_62 : decode cX10_did 62 = .ok (.getfield 113, 3) := by decide +kernel
theorem dX10_did_65 : decode cX10_did 65 = .ok (.iload 4, 2) := by decide +kernel
theorem dX10_did_67 : decode cX10_did 67 = .ok (.iconst 1, 1) := by decide +kernel
theorem dX10_did_68 : decode cX10_did 68 = .ok (.isub, 1) := by decide +kernel
theorem dX10_did_69 : decode cX10_did 69 = .ok (.aload_n 0, 1) := by decide +kernel
theorem dX10_did_70 : decode cX10_did 70 = .ok (.getfield 113, 3) := by decide +kernel
theorem dX10_did_73 : decode cX10_did 73 = .ok (.iload 4, 2) := by decide +kernel
theorem dX10_did_75 : decode cX10_did 75 = .ok (.iaload, 1) := by decide +kernel
theorem dX10_did_76 : decode cX10_did 76 = .ok (.iastore, 1) := by decide +kernel
theorem dX10_did_77 : decode cX10_did 77 = .ok (.iinc 4 1, 3) := by decide +kernel
theorem dX10_did_80 : decode cX10_did 80 = .ok (.goto (-58), 3) := by decide +kernel
theorem dX10_did_83 : decode cX10_did 83 = .ok (.aload_n 0, 1) := by decide +kernel
theorem dX10_did_84 : decode cX10_did 84 = .ok (.dup, 1) := by decide +kernel
theorem dX10_did_85 : decode cX10_did 85 = .ok (.getfield 130, 3) := by decide +kernel
theorem dX10_did_88 : decode cX10_did 88 = .ok (.iconst 1, 1) := by decide +kernel
theorem dX10_did_89 : decode cX10_did 89 = .ok (.isub, 1) := by decide +kernel
theorem dX10_did_90 : decode cX10_did 90 = .ok (.putfield 130, 3) := by decide +kernel
theorem dX10_did_93 : decode cX10_did 93 = .ok (.aload_n 0, 1) := by decide +kernel
theorem dX10_did_94 : decode cX10_did 94 = .ok (.getfield 107, 3) := by decide +kernel
theorem dX10_did_97 : decode cX10_did 97 = .ok (.aload_n 0, 1) := by decide +kernel
theorem dX10_did_98 : decode cX10_did 98 = .ok (.getfield 130, 3) := by decide +kernel
theorem dX10_did_101 : decode cX10_did 101 = .ok (.iload_n 1, 1) := by decide +kernel
theorem dX10_did_102 : decode cX10_did 102 = .ok (.iastore, 1) := by decide +kernel
theorem dX10_did_103 : decode cX10_did 103 = .ok (.aload_n 0, 1) := by decide +kernel
theorem dX10_did_104 : decode cX10_did 104 = .ok (.getfield 110, 3) := by decide +kernel
theorem dX10_did_107 : decode cX10_did 107 = .ok (.aload_n 0, 1) := by decide +kernel
theorem dX10_did_108 : decode cX10_did 108 = .ok (.getfield 130, 3) := by decide +kernel
theorem dX10_did_111 : decode cX10_did 111 = .ok (.iload_n 2, 1) := by decide +kernel
theorem dX10_did_112 : decode cX10_did 112 = .ok (.iastore, 1) := by decide +kernel
theorem dX10_did_113 : decode cX10_did 113 = .ok (.aload_n 0, 1) := by decide +kernel
theorem dX10_did_114 : decode cX10_did 114 = .ok (.getfield 113, 3) := by decide +kernel
theorem dX10_did_117 : decode cX10_did 117 = .ok (.aload_n 0, 1) := by decide +kernel
theorem dX10_did_118 : decode cX10_did 118 = .ok (.getfield 130, 3) := by decide +kernel
theorem dX10_did_121 : decode cX10_did 121 = .ok (.iload_n 3, 1) := by decide +kernel
theorem dX10_did_122 : decode cX10_did 122 = .ok (.iastore, 1) := by decide +kernel
theorem dX10_did_123 : decode cX10_did 123 = .ok (.aload_n 0, 1) := by decide +kernel
theorem dX10_did_124 : decode cX10_did 124 = .ok (.dup, 1) := by decide +kernel
theorem dX10_did_125 : decode cX10_did 125 = .ok (.getfield 130, 3) := by decide +kernel
theorem dX10_did_128 : decode cX10_did 128 = .ok (.iconst 1, 1) := by decide +kernel
theorem dX10_did_129 : decode cX10_did 129 = .ok (.iadd, 1) := by decide +kernel
theorem dX10_did_130 : decode cX10_did 130 = .ok (.putfield 130, 3) := by decide +kernel
theorem dX10_did_133 : decode cX10_did 133 = .ok (.return_, 1) := by decide +kernel
theorem dX10_line_0 : decode cX10_line 0 = .ok (.iload_n 1, 1) := by decide +kernel
theorem dX10_line_1 : decode cX10_line 1 = .ok (.iconst 0, 1) := by decide +kernel
theorem dX10_line_2 : decode cX10_line 2 = .ok (.iconst 1, 1) := by decide +kernel
theorem dX10_line_3 : decode cX10_line 3 = .ok (.invokestatic 116, 3) := by decide +kernel
theorem dX10_line_6 : decode cX10_line 6 = .ok (.ifCond .eq 39, 3) := by decide +kernel
theorem dX10_line_9 : decode cX10_line 9 = .ok (.iload_n 2, 1) := by decide +kernel
theorem dX10_line_10 : decode cX10_line 10 = .ok (.ldc 133, 2) := by decide +kernel
theorem dX10_line_12 : decode cX10_line 12 = .ok (.ldc 134, 2) := by decide +kernel
theorem dX10_line_14 : decode cX10_line 14 = .ok (.invokestatic 116, 3) := by decide +kernel
theorem dX10_line_17 : decode cX10_line 17 = .ok (.ifCond .eq 28, 3) := by decide +kernel
theorem dX10_line_20 : decode cX10_line 20 = .ok (.iload_n 2, 1) := by decide +kernel
theorem dX10_line_21 : decode cX10_line 21 = .ok (.ifCond .eq 24, 3) := by decide +kernel
theorem dX10_line_24 : decode cX10_line 24 = .ok (.iload_n 3, 1) := by decide +kernel
theorem dX10_line_25 : decode cX10_line 25 = .ok (.iconst 0, 1) := by decide +kernel
theorem dX10_line_26 : decode cX10_line 26 = .ok (.ldc 135, 2) := by decide +kernel
theorem dX10_line_28 : decode cX10_line 28 = .ok (.invokestatic 116, 3) := by decide +kernel
theorem dX10_line_31 : decode cX10_line 31 = .ok (.ifCond .eq 14, 3) := by decide +kernel
theorem dX10_line_34 : decode cX10_line 34 = .ok (.iload 4, 2) := by decide +kernel
theorem dX10_line_36 : decode cX10_line 36 = .ok (.iconst 0, 1) := by decide +kernel
theorem dX10_line_37 : decode cX10_line 37 = .ok (.bipush 99, 2) := by decide +kernel
theorem dX10_line_39 : decode cX10_line 39 = .ok (.invokestatic 116, 3) := by decide +kernel
theorem dX10_line_42 : decode cX10_line 42 = .ok (.ifCond .ne 5, 3) := by decide +kernel
theorem dX10_line_45 : decode cX10_line 45 = .ok (.iconst (-1), 1) := by decide +kernel
theorem dX10_line_46 : decode cX10_line 46 = .ok (.ireturn, 1) := by decide +kernel
theorem dX10_line_47 : decode cX10_line 47 = .ok (.aload_n 0, 1) := by decide +kernel
theorem dX10_line_48 : decode cX10_line 48 = .ok (.getfield 28, 3) := by decide +kernel
theorem dX10_line_51 : decode cX10_line 51 = .ok (.iload_n 1, 1) := by decide +kernel
theorem dX10_line_52 : decode cX10_line 52 = .ok (.iaload, 1) := by decide +kernel
theorem dX10_line_53 : decode cX10_line 53 = .ok (.bipush 80, 2) := by decide +kernel
theorem dX10_line_55 : decode cX10_line 55 = .ok (.if_icmp .ne 6, 3) := by decide +kernel
theorem dX10_line_58 : decode cX10_line 58 = .ok (.bipush (-5), 2) := by decide +kernel
theorem dX10_line_60 : decode cX10_line 60 = .ok (.ireturn, 1) := by decide +kernel
theorem dX10_line_61 : decode cX10_line 61 = .ok (.bipush 80, 2) := by decide +kernel
theorem dX10_line_63 : decode cX10_line 63 = .ok (.iload_n 1, 1) := by decide +kernel
theorem dX10_line_64 : decode cX10_line 64 = .ok (.imul, 1) := by decide +kernel
theorem dX10_line_65 : decode cX10_line 65 = .ok (.aload_n 0, 1) := by decide +kernel
theorem dX10_line_66 : decode cX10_line 66 = .ok (.getfield 28, 3) := by decide +kernel
theorem dX10_line_69 : decode cX10_line 69 = .ok (.iload_n 1, 1) := by decide +kernel
theorem dX10_line_70 : decode cX10_line 70 = .ok (.iaload, 1) := by decide +kernel
theorem dX10_line_71 : decode cX10_line 71 = .ok (.iadd, 1) := by decide +kernel
theorem dX10_line_72 : decode cX10_line 72 = .ok (.istore 5, 2) := by decide +kernel
theorem dX10_line_74 : decode cX10_line 74 = .ok (.aload_n 0, 1) := by decide +kernel
theorem dX10_line_75 : decode cX10_line 75 = .ok (.getfield 9, 3) := by decide +kernel
theorem dX10_line_78 : decode cX10_line 78 = .ok (.iload 5, 2) := by decide +kernel
theorem dX10_line_80 : decode cX10_line 80 = .ok (.iload_n 2, 1) := by decide +kernel
theorem dX10_line_81 : decode cX10_line 81 = .ok (.iastore, 1) := by decide +kernel
theorem dX10_line_82 : decode cX10_line 82 = .ok (.aload_n 0, 1) := by decide +kernel
theorem dX10_line_83 : decode cX10_line 83 = .ok (.getfield 13, 3) := by decide +kernel
theorem dX10_line_86 : decode cX10_line 86 = .ok (.iload 5, 2) := by decide +kernel
theorem dX10_line_88 : decode cX10_line 88 = .ok (.iload_n 3, 1) := by decide +kernel
theorem dX10_line_89 : decode cX10_line 89 = .ok (.sipush 10000, 3) := by decide +kernel
theorem dX10_line_92 : decode cX10_line 92 = .ok (.idiv, 1) := by decide +kernel
theorem dX10_line_93 : decode cX10_line 93 = .ok (.iastore, 1) := by decide +kernel
theorem dX10_line_94 : decode cX10_line 94 = .ok (.aload_n 0, 1) := by decide +kernel
theorem dX10_line_95 : decode cX10_line 95 = .ok (.getfield 19, 3) := by decide +kernel
theorem dX10_line_98 : decode cX10_line 98 = .ok (.iload 5, 2) := by decide +kernel
theorem dX10_line_100 : decode cX10_line 100 = .ok (.iload_n 3, 1) := by decide +kernel
theorem dX10_line_101 : decode cX10_line 101 = .ok (.sipush 10000, 3) := by decide +kernel
theorem dX10_line_104 : decode cX10_line 104 = .ok (.irem, 1) := by decide +kernel
theorem dX10_line_105 : decode cX10_line 105 = .ok (.iastore, 1) := by decide +kernel
theorem dX10_line_106 : decode cX10_line 106 = .ok (.aload_n 0, 1) := by decide +kernel
theorem dX10_line_107 : decode cX10_line 107 = .ok (.getfield 16, 3) := by decide +kernel
theorem dX10_line_110 : decode cX10_line 110 = .ok (.iload 5, 2) := by decide +kernel
theorem dX10_line_112 : decode cX10_line 112 = .ok (.iload 4, 2) := by decide +kernel
theorem dX10_line_114 : decode cX10_line 114 = .ok (.iastore, 1) := by decide +kernel
theorem dX10_line_115 : decode cX10_line 115 = .ok (.aload_n 0, 1) := by decide +kernel
theorem dX10_line_116 : decode cX10_line 116 = .ok (.getfield 22, 3) := by decide +kernel
theorem dX10_line_119 : decode cX10_line 119 = .ok (.iload 5, 2) := by decide +kernel
theorem dX10_line_121 : decode cX10_line 121 = .ok (.aload_n 0, 1) := by decide +kernel
theorem dX10_line_122 : decode cX10_line 122 = .ok (.getfield 136, 3) := by decide +kernel
theorem dX10_line_125 : decode cX10_line 125 = .ok (.iastore, 1) := by decide +kernel
theorem dX10_line_126 : decode cX10_line 126 = .ok (.aload_n 0, 1) := by decide +kernel
theorem dX10_line_127 : decode cX10_line 127 = .ok (.getfield 25, 3) := by decide +kernel
theorem dX10_line_130 : decode cX10_line 130 = .ok (.iload 5, 2) := by decide +kernel
theorem dX10_line_132 : decode cX10_line 132 = .ok (.iconst (-1), 1) := by decide +kernel
theorem dX10_line_133 : decode cX10_line 133 = .ok (.iastore, 1) := by decide +kernel
theorem dX10_line_134 : decode cX10_line 134 = .ok (.aload_n 0, 1) := by decide +kernel
theorem dX10_line_135 : decode cX10_line 135 = .ok (.getfield 28, 3) := by decide +kernel
theorem dX10_line_138 : decode cX10_line 138 = .ok (.iload_n 1, 1) := by decide +kernel
theorem dX10_line_139 : decode cX10_line 139 = .ok (.dup2, 1) := by decide +kernel
theorem dX10_line_140 : decode cX10_line 140 = .ok (.iaload, 1) := by decide +kernel
theorem dX10_line_141 : decode cX10_line 141 = .ok (.iconst 1, 1) := by decide +kernel
theorem dX10_line_142 : decode cX10_line 142 = .ok (.iadd, 1) := by decide +kernel
theorem dX10_line_143 : decode cX10_line 143 = .ok (.iastore, 1) := by decide +kernel
theorem dX10_line_144 : decode cX10_line 144 = .ok (.aload_n 0, 1) := by decide +kernel
theorem dX10_line_145 : decode cX10_line 145 = .ok (.iconst 0, 1) := by decide +kernel
theorem dX10_line_146 : decode cX10_line 146 = .ok (.iload_n 1, 1) := by decide +kernel
theorem dX10_line_147 : decode cX10_line 147 = .ok (.iconst 0, 1) := by decide +kernel
theorem dX10_line_148 : decode cX10_line 148 = .ok (.invokevirtual 139, 3) := by decide +kernel
theorem dX10_line_151 : decode cX10_line 151 = .ok (.aload_n 0, 1) := by decide +kernel
theorem dX10_line_152 : decode cX10_line 152 = .ok (.getfield 28, 3) := by decide +kernel
theorem dX10_line_155 : decode cX10_line 155 = .ok (.iload_n 1, 1) := by decide +kernel
theorem dX10_line_156 : decode cX10_line 156 = .ok (.iaload, 1) := by decide +kernel
theorem dX10_line_157 : decode cX10_line 157 = .ok (.iconst 1, 1) := by decide +kernel
theorem dX10_line_158 : decode cX10_line 158 = .ok (.isub, 1) := by decide +kernel
theorem dX10_line_159 : decode cX10_line 159 = .ok (.ireturn, 1) := by decide +kernel
theorem dX10_changed_0 : decode cX10_changed 0 = .ok (.aload_n 0, 1) := by decide +kernel
theorem dX10_changed_1 : decode cX10_changed 1 = .ok (.iconst 0, 1) := by decide +kernel
theorem dX10_changed_2 : decode cX10_changed 2 = .ok (.putfield 123, 3) := by decide +kernel
theorem dX10_changed_5 : decode cX10_changed 5 = .ok (.aload_n 0, 1) := by decide +kernel
theorem dX10_changed_6 : decode cX10_changed 6 = .ok (.iconst 0, 1) := by decide +kernel
theorem dX10_changed_7 : decode cX10_changed 7 = .ok (.putfield 127, 3) := by decide +kernel
theorem dX10_changed_10 : decode cX10_changed 10 = .ok (.aload_n 0, 1) := by decide +kernel
theorem dX10_changed_11 : decode cX10_changed 11 = .ok (.iconst 0, 1) := by decide +kernel
theorem dX10_changed_12 : decode cX10_changed 12 = .ok (.putfield 130, 3) := by decide +kernel
theorem dX10_changed_15 : decode cX10_changed 15 = .ok (.return_, 1) := by decide +kernel
theorem dX10_today_0 : decode cX10_today 0 = .ok (.iload_n 1, 1) := by decide +kernel
theorem dX10_today_1 : decode cX10_today 1 = .ok (.aload_n 0, 1) := by decide +kernel
theorem dX10_today_2 : decode cX10_today 2 = .ok (.getfield 136, 3) := by decide +kernel
theorem dX10_today_5 : decode cX10_today 5 = .ok (.ldc 143, 2) := by decide +kernel
theorem dX10_today_7 : decode cX10_today 7 = .ok (.invokestatic 116, 3) := by decide +kernel
theorem dX10_today_10 : decode cX10_today 10 = .ok (.ifCond .ne 5, 3) := by decide +kernel
theorem dX10_today_13 : decode cX10_today 13 = .ok (.iconst (-1), 1) := by decide +kernel
theorem dX10_today_14 : decode cX10_today 14 = .ok (.ireturn, 1) := by decide +kernel
theorem dX10_today_15 : decode cX10_today 15 = .ok (.aload_n 0, 1) := by decide +kernel
theorem dX10_today_16 : decode cX10_today 16 = .ok (.getfield 136, 3) := by decide +kernel
theorem dX10_today_19 : decode cX10_today 19 = .ok (.istore_n 2, 1) := by decide +kernel
theorem dX10_today_20 : decode cX10_today 20 = .ok (.iload_n 1, 1) := by decide +kernel
theorem dX10_today_21 : decode cX10_today 21 = .ok (.aload_n 0, 1) := by decide +kernel
theorem dX10_today_22 : decode cX10_today 22 = .ok (.getfield 136, 3) := by decide +kernel
theorem dX10_today_25 : decode cX10_today 25 = .ok (.if_icmp .eq 7, 3) := by decide +kernel
theorem dX10_today_28 : decode cX10_today 28 = .ok (.aload_n 0, 1) := by decide +kernel
theorem dX10_today_29 : decode cX10_today 29 = .ok (.invokevirtual 144, 3) := by decide +kernel
theorem dX10_today_32 : decode cX10_today 32 = .ok (.aload_n 0, 1) := by decide +kernel
theorem dX10_today_33 : decode cX10_today 33 = .ok (.iload_n 1, 1) := by decide +kernel
theorem dX10_today_34 : decode cX10_today 34 = .ok (.putfield 136, 3) := by decide +kernel
theorem dX10_today_37 : decode cX10_today 37 = .ok (.iload_n 2, 1) := by decide +kernel
theorem dX10_today_38 : decode cX10_today 38 = .ok (.ireturn, 1) := by decide +kernel
theorem dX10_terms_0 : decode cX10_terms 0 = .ok (.iload_n 1, 1) := by decide +kernel
theorem dX10_terms_1 : decode cX10_terms 1 = .ok (.iconst 0, 1) := by decide +kernel
theorem dX10_terms_2 : decode cX10_terms 2 = .ok (.bipush 99, 2) := by decide +kernel
theorem dX10_terms_4 : decode cX10_terms 4 = .ok (.invokestatic 116, 3) := by decide +kernel
theorem dX10_terms_7 : decode cX10_terms 7 = .ok (.ifCond .eq 14, 3) := by decide +kernel
theorem dX10_terms_10 : decode cX10_terms 10 = .ok (.iload_n 2, 1) := by decide +kernel
theorem dX10_terms_11 : decode cX10_terms 11 = .ok (.iconst 0, 1) := by decide +kernel
theorem dX10_terms_12 : decode cX10_terms 12 = .ok (.sipush 10000, 3) := by decide +kernel
theorem dX10_terms_15 : decode cX10_terms 15 = .ok (.invokestatic 116, 3) := by decide +kernel
theorem dX10_terms_18 : decode cX10_terms 18 = .ok (.ifCond .ne 5, 3) := by decide +kernel
theorem dX10_terms_21 : decode cX10_terms 21 = .ok (.iconst (-1), 1) := by decide +kernel
theorem dX10_terms_22 : decode cX10_terms 22 = .ok (.ireturn, 1) := by decide +kernel
theorem dX10_terms_23 : decode cX10_terms 23 = .ok (.iload_n 1, 1) := by decide +kernel
theorem dX10_terms_24 : decode cX10_terms 24 = .ok (.aload_n 0, 1) := by decide +kernel
theorem dX10_terms_25 : decode cX10_terms 25 = .ok (.getfield 31, 3) := by decide +kernel
theorem dX10_terms_28 : decode cX10_terms 28 = .ok (.if_icmp .ne 11, 3) := by decide +kernel
theorem dX10_terms_31 : decode cX10_terms 31 = .ok (.iload_n 2, 1) := by decide +kernel
theorem dX10_terms_32 : decode cX10_terms 32 = .ok (.aload_n 0, 1) := by decide +kernel
theorem dX10_terms_33 : decode cX10_terms 33 = .ok (.getfield 147, 3) := by decide +kernel
theorem dX10_terms_36 : decode cX10_terms 36 = .ok (.if_icmp .eq 7, 3) := by decide +kernel
theorem dX10_terms_39 : decode cX10_terms 39 = .ok (.aload_n 0, 1) := by decide +kernel
theorem dX10_terms_40 : decode cX10_terms 40 = .ok (.invokevirtual 144, 3) := by decide +kernel
theorem dX10_terms_43 : decode cX10_terms 43 = .ok (.aload_n 0, 1) := by decide +kernel
theorem dX10_terms_44 : decode cX10_terms 44 = .ok (.iload_n 1, 1) := by decide +kernel
theorem dX10_terms_45 : decode cX10_terms 45 = .ok (.putfield 31, 3) := by decide +kernel
theorem dX10_terms_48 : decode cX10_terms 48 = .ok (.aload_n 0, 1) := by decide +kernel
theorem dX10_terms_49 : decode cX10_terms 49 = .ok (.iload_n 2, 1) := by decide +kernel
theorem dX10_terms_50 : decode cX10_terms 50 = .ok (.putfield 147, 3) := by decide +kernel
theorem dX10_terms_53 : decode cX10_terms 53 = .ok (.iconst 1, 1) := by decide +kernel
theorem dX10_terms_54 : decode cX10_terms 54 = .ok (.ireturn, 1) := by decide +kernel
theorem dX10_told_0 : decode cX10_told 0 = .ok (.aload_n 0, 1) := by decide +kernel
theorem dX10_told_1 : decode cX10_told 1 = .ok (.iload_n 1, 1) := by decide +kernel
theorem dX10_told_2 : decode cX10_told 2 = .ok (.iload_n 2, 1) := by decide +kernel
theorem dX10_told_3 : decode cX10_told 3 = .ok (.invokevirtual 150, 3) := by decide +kernel
theorem dX10_told_6 : decode cX10_told 6 = .ok (.ifCond .ne 6, 3) := by decide +kernel
theorem dX10_told_9 : decode cX10_told 9 = .ok (.ldc 154, 2) := by decide +kernel
theorem dX10_told_11 : decode cX10_told 11 = .ok (.ireturn, 1) := by decide +kernel
theorem dX10_told_12 : decode cX10_told 12 = .ok (.bipush 80, 2) := by decide +kernel
theorem dX10_told_14 : decode cX10_told 14 = .ok (.iload_n 1, 1) := by decide +kernel
theorem dX10_told_15 : decode cX10_told 15 = .ok (.imul, 1) := by decide +kernel
theorem dX10_told_16 : decode cX10_told 16 = .ok (.iload_n 2, 1) := by decide +kernel
theorem dX10_told_17 : decode cX10_told 17 = .ok (.iadd, 1) := by decide +kernel
theorem dX10_told_18 : decode cX10_told 18 = .ok (.istore 4, 2) := by decide +kernel
theorem dX10_told_20 : decode cX10_told 20 = .ok (.iload_n 3, 1) := by decide +kernel
theorem dX10_told_21 : decode cX10_told 21 = .ok (.tableswitch 118 0 6 #[43, 51, 59, 67, 75, 83, 91], 43) := by decide +kernel
theorem dX10_told_64 : decode cX10_told 64 = .ok (.aload_n 0, 1) := by decide +kernel
theorem dX10_told_65 : decode cX10_told 65 = .ok (.getfield 9, 3) := by decide +kernel
theorem dX10_told_68 : decode cX10_told 68 = .ok (.iload 4, 2) := by decide +kernel
theorem dX10_told_70 : decode cX10_told 70 = .ok (.iaload, 1) := by decide +kernel
theorem dX10_told_71 : decode cX10_told 71 = .ok (.ireturn, 1) := by decide +kernel
theorem dX10_told_72 : decode cX10_told 72 = .ok (.aload_n 0, 1) := by decide +kernel
theorem dX10_told_73 : decode cX10_told 73 = .ok (.getfield 13, 3) := by decide +kernel
theorem dX10_told_76 : decode cX10_told 76 = .ok (.iload 4, 2) := by decide +kernel
theorem dX10_told_78 : decode cX10_told 78 = .ok (.iaload, 1) := by decide +kernel
theorem dX10_told_79 : decode cX10_told 79 = .ok (.ireturn, 1) := by decide +kernel
theorem dX10_told_80 : decode cX10_told 80 = .ok (.aload_n 0, 1) := by decide +kernel
theorem dX10_told_81 : decode cX10_told 81 = .ok (.getfield 16, 3) := by decide +kernel
theorem dX10_told_84 : decode cX10_told 84 = .ok (.iload 4, 2) := by decide +kernel
theorem dX10_told_86 : decode cX10_told 86 = .ok (.iaload, 1) := by decide +kernel
theorem dX10_told_87 : decode cX10_told 87 = .ok (.ireturn, 1) := by decide +kernel
theorem dX10_told_88 : decode cX10_told 88 = .ok (.aload_n 0, 1) := by decide +kernel
theorem dX10_told_89 : decode cX10_told 89 = .ok (.getfield 19, 3) := by decide +kernel
theorem dX10_told_92 : decode cX10_told 92 = .ok (.iload 4, 2) := by decide +kernel
theorem dX10_told_94 : decode cX10_told 94 = .ok (.iaload, 1) := by decide +kernel
theorem dX10_told_95 : decode cX10_told 95 = .ok (.ireturn, 1) := by decide +kernel
theorem dX10_told_96 : decode cX10_told 96 = .ok (.aload_n 0, 1) := by decide +kernel
theorem dX10_told_97 : decode cX10_told 97 = .ok (.getfield 22, 3) := by decide +kernel
theorem dX10_told_100 : decode cX10_told 100 = .ok (.iload 4, 2) := by decide +kernel
theorem dX10_told_102 : decode cX10_told 102 = .ok (.iaload, 1) := by decide +kernel
theorem dX10_told_103 : decode cX10_told 103 = .ok (.ireturn, 1) := by decide +kernel
theorem dX10_told_104 : decode cX10_told 104 = .ok (.aload_n 0, 1) := by decide +kernel
theorem dX10_told_105 : decode cX10_told 105 = .ok (.getfield 25, 3) := by decide +kernel
theorem dX10_told_108 : decode cX10_told 108 = .ok (.iload 4, 2) := by decide +kernel
theorem dX10_told_110 : decode cX10_told 110 = .ok (.iaload, 1) := by decide +kernel
theorem dX10_told_111 : decode cX10_told 111 = .ok (.ireturn, 1) := by decide +kernel
theorem dX10_told_112 : decode cX10_told 112 = .ok (.aload_n 0, 1) := by decide +kernel
theorem dX10_told_113 : decode cX10_told 113 = .ok (.getfield 25, 3) := by decide +kernel
theorem dX10_told_116 : decode cX10_told 116 = .ok (.iload 4, 2) := by decide +kernel
theorem dX10_told_118 : decode cX10_told 118 = .ok (.iaload, 1) := by decide +kernel
theorem dX10_told_119 : decode cX10_told 119 = .ok (.ifCond .ge 18, 3) := by decide +kernel
theorem dX10_told_122 : decode cX10_told 122 = .ok (.aload_n 0, 1) := by decide +kernel
theorem dX10_told_123 : decode cX10_told 123 = .ok (.getfield 136, 3) := by decide +kernel
theorem dX10_told_126 : decode cX10_told 126 = .ok (.aload_n 0, 1) := by decide +kernel
theorem dX10_told_127 : decode cX10_told 127 = .ok (.getfield 22, 3) := by decide +kernel
theorem dX10_told_130 : decode cX10_told 130 = .ok (.iload 4, 2) := by decide +kernel
theorem dX10_told_132 : decode cX10_told 132 = .ok (.iaload, 1) := by decide +kernel
theorem dX10_told_133 : decode cX10_told 133 = .ok (.isub, 1) := by decide +kernel
theorem dX10_told_134 : decode cX10_told 134 = .ok (.goto 4, 3) := by decide +kernel
theorem dX10_told_137 : decode cX10_told 137 = .ok (.iconst (-1), 1) := by decide +kernel
theorem dX10_told_138 : decode cX10_told 138 = .ok (.ireturn, 1) := by decide +kernel
theorem dX10_told_139 : decode cX10_told 139 = .ok (.ldc 154, 2) := by decide +kernel
theorem dX10_told_141 : decode cX10_told 141 = .ok (.ireturn, 1) := by decide +kernel
theorem dX10_apart_0 : decode cX10_apart 0 = .ok (.iload_n 0, 1) := by decide +kernel
theorem dX10_apart_1 : decode cX10_apart 1 = .ok (.iload_n 1, 1) := by decide +kernel
theorem dX10_apart_2 : decode cX10_apart 2 = .ok (.if_icmp .ge 9, 3) := by decide +kernel
theorem dX10_apart_5 : decode cX10_apart 5 = .ok (.iload_n 1, 1) := by decide +kernel
theorem dX10_apart_6 : decode cX10_apart 6 = .ok (.iload_n 0, 1) := by decide +kernel
theorem dX10_apart_7 : decode cX10_apart 7 = .ok (.isub, 1) := by decide +kernel
theorem dX10_apart_8 : decode cX10_apart 8 = .ok (.goto 6, 3) := by decide +kernel
theorem dX10_apart_11 : decode cX10_apart 11 = .ok (.iload_n 0, 1) := by decide +kernel
theorem dX10_apart_12 : decode cX10_apart 12 = .ok (.iload_n 1, 1) := by decide +kernel
theorem dX10_apart_13 : decode cX10_apart 13 = .ok (.isub, 1) := by decide +kernel
theorem dX10_apart_14 : decode cX10_apart 14 = .ok (.ireturn, 1) := by decide +kernel
theorem dX10_hasWord_0 : decode cX10_hasWord 0 = .ok (.iconst 0, 1) := by decide +kernel
theorem dX10_hasWord_1 : decode cX10_hasWord 1 = .ok (.istore 4, 2) := by decide +kernel
theorem dX10_hasWord_3 : decode cX10_hasWord 3 = .ok (.iconst 0, 1) := by decide +kernel
theorem dX10_hasWord_4 : decode cX10_hasWord 4 = .ok (.istore 5, 2) := by decide +kernel
theorem dX10_hasWord_6 : decode cX10_hasWord 6 = .ok (.iload 5, 2) := by decide +kernel
theorem dX10_hasWord_8 : decode cX10_hasWord 8 = .ok (.aload_n 0, 1) := by decide +kernel
theorem dX10_hasWord_9 : decode cX10_hasWord 9 = .ok (.getfield 41, 3) := by decide +kernel
theorem dX10_hasWord_12 : decode cX10_hasWord 12 = .ok (.iload_n 1, 1) := by decide +kernel
theorem dX10_hasWord_13 : decode cX10_hasWord 13 = .ok (.iaload, 1) := by decide +kernel
theorem dX10_hasWord_14 : decode cX10_hasWord 14 = .ok (.if_icmp .ge 55, 3) := by decide +kernel
theorem dX10_hasWord_17 : decode cX10_hasWord 17 = .ok (.aload_n 0, 1) := by decide +kernel
theorem dX10_hasWord_18 : decode cX10_hasWord 18 = .ok (.getfield 38, 3) := by decide +kernel
theorem dX10_hasWord_21 : decode cX10_hasWord 21 = .ok (.bipush 8, 2) := by decide +kernel
theorem dX10_hasWord_23 : decode cX10_hasWord 23 = .ok (.iload_n 1, 1) := by decide +kernel
theorem dX10_hasWord_24 : decode cX10_hasWord 24 = .ok (.imul, 1) := by decide +kernel
theorem dX10_hasWord_25 : decode cX10_hasWord 25 = .ok (.iload 5, 2) := by decide +kernel
theorem dX10_hasWord_27 : decode cX10_hasWord 27 = .ok (.iadd, 1) := by decide +kernel
theorem dX10_hasWord_28 : decode cX10_hasWord 28 = .ok (.iaload, 1) := by decide +kernel
theorem dX10_hasWord_29 : decode cX10_hasWord 29 = .ok (.istore 6, 2) := by decide +kernel
theorem dX10_hasWord_31 : decode cX10_hasWord 31 = .ok (.iload 4, 2) := by decide +kernel
theorem dX10_hasWord_33 : decode cX10_hasWord 33 = .ok (.ifCond .ne 23, 3) := by decide +kernel
theorem dX10_hasWord_36 : decode cX10_hasWord 36 = .ok (.iload 6, 2) := by decide +kernel
theorem dX10_hasWord_38 : decode cX10_hasWord 38 = .ok (.bipush 80, 2) := by decide +kernel
theorem dX10_hasWord_40 : decode cX10_hasWord 40 = .ok (.idiv, 1) := by decide +kernel
theorem dX10_hasWord_41 : decode cX10_hasWord 41 = .ok (.iload_n 2, 1) := by decide +kernel
theorem dX10_hasWord_42 : decode cX10_hasWord 42 = .ok (.if_icmp .ne 18, 3) := by decide +kernel
theorem dX10_hasWord_45 : decode cX10_hasWord 45 = .ok (.aload_n 0, 1) := by decide +kernel
theorem dX10_hasWord_46 : decode cX10_hasWord 46 = .ok (.getfield 16, 3) := by decide +kernel
theorem dX10_hasWord_49 : decode cX10_hasWord 49 = .ok (.iload 6, 2) := by decide +kernel
theorem dX10_hasWord_51 : decode cX10_hasWord 51 = .ok (.iaload, 1) := by decide +kernel
theorem dX10_hasWord_52 : decode cX10_hasWord 52 = .ok (.iload_n 3, 1) := by decide +kernel
theorem dX10_hasWord_53 : decode cX10_hasWord 53 = .ok (.if_icmp .ne 7, 3) := by decide +kernel
theorem dX10_hasWord_56 : decode cX10_hasWord 56 = .ok (.iconst 1, 1) := by decide +kernel
theorem dX10_hasWord_57 : decode cX10_hasWord 57 = .ok (.goto 4, 3) := by decide +kernel
theorem dX10_hasWord_60 : decode cX10_hasWord 60 = .ok (.iconst 0, 1) := by decide +kernel
theorem dX10_hasWord_61 : decode cX10_hasWord 61 = .ok (.istore 4, 2) := by decide +kernel
theorem dX10_hasWord_63 : decode cX10_hasWord 63 = .ok (.iinc 5 1, 3) := by decide +kernel
theorem dX10_hasWord_66 : decode cX10_hasWord 66 = .ok (.goto (-60), 3) := by decide +kernel
theorem dX10_hasWord_69 : decode cX10_hasWord 69 = .ok (.iload 4, 2) := by decide +kernel
theorem dX10_hasWord_71 : decode cX10_hasWord 71 = .ok (.ireturn, 1) := by decide +kernel
theorem dX10_fitOf_0 : decode cX10_fitOf 0 = .ok (.bipush 80, 2) := by decide +kernel
theorem dX10_fitOf_2 : decode cX10_fitOf 2 = .ok (.iload_n 2, 1) := by decide +kernel
theorem dX10_fitOf_3 : decode cX10_fitOf 3 = .ok (.iadd, 1) := by decide +kernel
theorem dX10_fitOf_4 : decode cX10_fitOf 4 = .ok (.istore_n 3, 1) := by decide +kernel
theorem dX10_fitOf_5 : decode cX10_fitOf 5 = .ok (.aload_n 0, 1) := by decide +kernel
theorem dX10_fitOf_6 : decode cX10_fitOf 6 = .ok (.getfield 13, 3) := by decide +kernel
theorem dX10_fitOf_9 : decode cX10_fitOf 9 = .ok (.iload_n 1, 1) := by decide +kernel
theorem dX10_fitOf_10 : decode cX10_fitOf 10 = .ok (.iaload, 1) := by decide +kernel
theorem dX10_fitOf_11 : decode cX10_fitOf 11 = .ok (.aload_n 0, 1) := by decide +kernel
theorem dX10_fitOf_12 : decode cX10_fitOf 12 = .ok (.getfield 13, 3) := by decide +kernel
theorem dX10_fitOf_15 : decode cX10_fitOf 15 = .ok (.iload_n 3, 1) := by decide +kernel
theorem dX10_fitOf_16 : decode cX10_fitOf 16 = .ok (.iaload, 1) := by decide +kernel
theorem dX10_fitOf_17 : decode cX10_fitOf 17 = .ok (.invokestatic 155, 3) := by decide +kernel
theorem dX10_fitOf_20 : decode cX10_fitOf 20 = .ok (.istore 4, 2) := by decide +kernel
theorem dX10_fitOf_22 : decode cX10_fitOf 22 = .ok (.aload_n 0, 1) := by decide +kernel
theorem dX10_fitOf_23 : decode cX10_fitOf 23 = .ok (.getfield 9, 3) := by decide +kernel
theorem dX10_fitOf_26 : decode cX10_fitOf 26 = .ok (.iload_n 1, 1) := by decide +kernel
theorem dX10_fitOf_27 : decode cX10_fitOf 27 = .ok (.iaload, 1) := by decide +kernel
theorem dX10_fitOf_28 : decode cX10_fitOf 28 = .ok (.aload_n 0, 1) := by decide +kernel
theorem dX10_fitOf_29 : decode cX10_fitOf 29 = .ok (.getfield 9, 3) := by decide +kernel
theorem dX10_fitOf_32 : decode cX10_fitOf 32 = .ok (.iload_n 3, 1) := by decide +kernel
theorem dX10_fitOf_33 : decode cX10_fitOf 33 = .ok (.iaload, 1) := by decide +kernel
theorem dX10_fitOf_34 : decode cX10_fitOf 34 = .ok (.invokestatic 155, 3) := by decide +kernel
theorem dX10_fitOf_37 : decode cX10_fitOf 37 = .ok (.istore 5, 2) := by decide +kernel
theorem dX10_fitOf_39 : decode cX10_fitOf 39 = .ok (.iload 4, 2) := by decide +kernel
theorem dX10_fitOf_41 : decode cX10_fitOf 41 = .ok (.aload_n 0, 1) := by decide +kernel
theorem dX10_fitOf_42 : decode cX10_fitOf 42 = .ok (.getfield 31, 3) := by decide +kernel
theorem dX10_fitOf_45 : decode cX10_fitOf 45 = .ok (.if_icmp .gt 45, 3) := by decide +kernel
theorem dX10_fitOf_48 : decode cX10_fitOf 48 = .ok (.iload 5, 2) := by decide +kernel
theorem dX10_fitOf_50 : decode cX10_fitOf 50 = .ok (.aload_n 0, 1) := by decide +kernel
theorem dX10_fitOf_51 : decode cX10_fitOf 51 = .ok (.getfield 147, 3) := by decide +kernel
theorem dX10_fitOf_54 : decode cX10_fitOf 54 = .ok (.if_icmp .gt 36, 3) := by decide +kernel
theorem dX10_fitOf_57 : decode cX10_fitOf 57 = .ok (.aload_n 0, 1) := by decide +kernel
theorem dX10_fitOf_58 : decode cX10_fitOf 58 = .ok (.getfield 19, 3) := by decide +kernel
theorem dX10_fitOf_61 : decode cX10_fitOf 61 = .ok (.iload_n 1, 1) := by decide +kernel
theorem dX10_fitOf_62 : decode cX10_fitOf 62 = .ok (.iaload, 1) := by decide +kernel
theorem dX10_fitOf_63 : decode cX10_fitOf 63 = .ok (.ifCond .eq 29, 3) := by decide +kernel
theorem dX10_fitOf_66 : decode cX10_fitOf 66 = .ok (.aload_n 0, 1) := by decide +kernel
theorem dX10_fitOf_67 : decode cX10_fitOf 67 = .ok (.getfield 19, 3) := by decide +kernel
theorem dX10_fitOf_70 : decode cX10_fitOf 70 = .ok (.iload_n 3, 1) := by decide +kernel
theorem dX10_fitOf_71 : decode cX10_fitOf 71 = .ok (.iaload, 1) := by decide +kernel
theorem dX10_fitOf_72 : decode cX10_fitOf 72 = .ok (.ifCond .eq 20, 3) := by decide +kernel
theorem dX10_fitOf_75 : decode cX10_fitOf 75 = .ok (.aload_n 0, 1) := by decide +kernel
theorem dX10_fitOf_76 : decode cX10_fitOf 76 = .ok (.getfield 19, 3) := by decide +kernel
theorem dX10_fitOf_79 : decode cX10_fitOf 79 = .ok (.iload_n 1, 1) := by decide +kernel
theorem dX10_fitOf_80 : decode cX10_fitOf 80 = .ok (.iaload, 1) := by decide +kernel
theorem dX10_fitOf_81 : decode cX10_fitOf 81 = .ok (.aload_n 0, 1) := by decide +kernel
theorem dX10_fitOf_82 : decode cX10_fitOf 82 = .ok (.getfield 19, 3) := by decide +kernel
theorem dX10_fitOf_85 : decode cX10_fitOf 85 = .ok (.iload_n 3, 1) := by decide +kernel
theorem dX10_fitOf_86 : decode cX10_fitOf 86 = .ok (.iaload, 1) := by decide +kernel
theorem dX10_fitOf_87 : decode cX10_fitOf 87 = .ok (.if_icmp .eq 5, 3) := by decide +kernel
theorem dX10_fitOf_90 : decode cX10_fitOf 90 = .ok (.iconst 0, 1) := by decide +kernel
theorem dX10_fitOf_91 : decode cX10_fitOf 91 = .ok (.ireturn, 1) := by decide +kernel
theorem dX10_fitOf_92 : decode cX10_fitOf 92 = .ok (.iconst 0, 1) := by decide +kernel
theorem dX10_fitOf_93 : decode cX10_fitOf 93 = .ok (.istore 6, 2) := by decide +kernel
theorem dX10_fitOf_95 : decode cX10_fitOf 95 = .ok (.iconst 0, 1) := by decide +kernel
theorem dX10_fitOf_96 : decode cX10_fitOf 96 = .ok (.istore 7, 2) := by decide +kernel
theorem dX10_fitOf_98 : decode cX10_fitOf 98 = .ok (.iload 7, 2) := by decide +kernel
theorem dX10_fitOf_100 : decode cX10_fitOf 100 = .ok (.aload_n 0, 1) := by decide +kernel
theorem dX10_fitOf_101 : decode cX10_fitOf 101 = .ok (.getfield 120, 3) := by decide +kernel
theorem dX10_fitOf_104 : decode cX10_fitOf 104 = .ok (.if_icmp .ge 72, 3) := by decide +kernel
theorem dX10_fitOf_107 : decode cX10_fitOf 107 = .ok (.iload 6, 2) := by decide +kernel
theorem dX10_fitOf_109 : decode cX10_fitOf 109 = .ok (.aload_n 0, 1) := by decide +kernel
theorem dX10_fitOf_110 : decode cX10_fitOf 110 = .ok (.getfield 47, 3) := by decide +kernel
theorem dX10_fitOf_113 : decode cX10_fitOf 113 = .ok (.iload 7, 2) := by decide +kernel
theorem dX10_fitOf_115 : decode cX10_fitOf 115 = .ok (.iaload, 1) := by decide +kernel
theorem dX10_fitOf_116 : decode cX10_fitOf 116 = .ok (.ifCond .ge 50, 3) := by decide +kernel
theorem dX10_fitOf_119 : decode cX10_fitOf 119 = .ok (.aload_n 0, 1) := by decide +kernel
theorem dX10_fitOf_120 : decode cX10_fitOf 120 = .ok (.getfield 35, 3) := by decide +kernel
theorem dX10_fitOf_123 : decode cX10_fitOf 123 = .ok (.iload 7, 2) := by decide +kernel
theorem dX10_fitOf_125 : decode cX10_fitOf 125 = .ok (.iaload, 1) := by decide +kernel
theorem dX10_fitOf_126 : decode cX10_fitOf 126 = .ok (.iconst 2, 1) := by decide +kernel
theorem dX10_fitOf_127 : decode cX10_fitOf 127 = .ok (.if_icmp .ne 39, 3) := by decide +kernel
theorem dX10_fitOf_130 : decode cX10_fitOf 130 = .ok (.aload_n 0, 1) := by decide +kernel
theorem dX10_fitOf_131 : decode cX10_fitOf 131 = .ok (.iload 7, 2) := by decide +kernel
theorem dX10_fitOf_133 : decode cX10_fitOf 133 = .ok (.iconst 0, 1) := by decide +kernel
theorem dX10_fitOf_134 : decode cX10_fitOf 134 = .ok (.aload_n 0, 1) := by decide +kernel
theorem dX10_fitOf_135 : decode cX10_fitOf 135 = .ok (.getfield 16, 3) := by decide +kernel
theorem dX10_fitOf_138 : decode cX10_fitOf 138 = .ok (.iload_n 1, 1) := by decide +kernel
theorem dX10_fitOf_139 : decode cX10_fitOf 139 = .ok (.iaload, 1) := by decide +kernel
theorem dX10_fitOf_140 : decode cX10_fitOf 140 = .ok (.invokevirtual 159, 3) := by decide +kernel
theorem dX10_fitOf_143 : decode cX10_fitOf 143 = .ok (.ifCond .eq 23, 3) := by decide +kernel
theorem dX10_fitOf_146 : decode cX10_fitOf 146 = .ok (.aload_n 0, 1) := by decide +kernel
theorem dX10_fitOf_147 : decode cX10_fitOf 147 = .ok (.iload 7, 2) := by decide +kernel
theorem dX10_fitOf_149 : decode cX10_fitOf 149 = .ok (.iconst 1, 1) := by decide +kernel
theorem dX10_fitOf_150 : decode cX10_fitOf 150 = .ok (.aload_n 0, 1) := by decide +kernel
theorem dX10_fitOf_151 : decode cX10_fitOf 151 = .ok (.getfield 16, 3) := by decide +kernel
theorem dX10_fitOf_154 : decode cX10_fitOf 154 = .ok (.iload_n 3, 1) := by decide +kernel
theorem dX10_fitOf_155 : decode cX10_fitOf 155 = .ok (.iaload, 1) := by decide +kernel
theorem dX10_fitOf_156 : decode cX10_fitOf 156 = .ok (.invokevirtual 159, 3) := by decide +kernel
theorem dX10_fitOf_159 : decode cX10_fitOf 159 = .ok (.ifCond .eq 7, 3) := by decide +kernel
theorem dX10_fitOf_162 : decode cX10_fitOf 162 = .ok (.iconst 1, 1) := by decide +kernel
theorem dX10_fitOf_163 : decode cX10_fitOf 163 = .ok (.goto 4, 3) := by decide +kernel
theorem dX10_fitOf_166 : decode cX10_fitOf 166 = .ok (.iconst 0, 1) := by decide +kernel
theorem dX10_fitOf_167 : decode cX10_fitOf 167 = .ok (.iadd, 1) := by decide +kernel
theorem dX10_fitOf_168 : decode cX10_fitOf 168 = .ok (.istore 6, 2) := by decide +kernel
theorem dX10_fitOf_170 : decode cX10_fitOf 170 = .ok (.iinc 7 1, 3) := by decide +kernel
theorem dX10_fitOf_173 : decode cX10_fitOf 173 = .ok (.goto (-75), 3) := by decide +kernel
theorem dX10_fitOf_176 : decode cX10_fitOf 176 = .ok (.bipush 100, 2) := by decide +kernel
theorem dX10_fitOf_178 : decode cX10_fitOf 178 = .ok (.iconst 2, 1) := by decide +kernel
theorem dX10_fitOf_179 : decode cX10_fitOf 179 = .ok (.iload 4, 2) := by decide +kernel
theorem dX10_fitOf_181 : decode cX10_fitOf 181 = .ok (.imul, 1) := by decide +kernel
theorem dX10_fitOf_182 : decode cX10_fitOf 182 = .ok (.isub, 1) := by decide +kernel
theorem dX10_fitOf_183 : decode cX10_fitOf 183 = .ok (.iload 5, 2) := by decide +kernel
theorem dX10_fitOf_185 : decode cX10_fitOf 185 = .ok (.bipush 100, 2) := by decide +kernel
theorem dX10_fitOf_187 : decode cX10_fitOf 187 = .ok (.idiv, 1) := by decide +kernel
theorem dX10_fitOf_188 : decode cX10_fitOf 188 = .ok (.isub, 1) := by decide +kernel
theorem dX10_fitOf_189 : decode cX10_fitOf 189 = .ok (.aload_n 0, 1) := by decide +kernel
theorem dX10_fitOf_190 : decode cX10_fitOf 190 = .ok (.getfield 19, 3) := by decide +kernel
theorem dX10_fitOf_193 : decode cX10_fitOf 193 = .ok (.iload_n 1, 1) := by decide +kernel
theorem dX10_fitOf_194 : decode cX10_fitOf 194 = .ok (.iaload, 1) := by decide +kernel
theorem dX10_fitOf_195 : decode cX10_fitOf 195 = .ok (.ifCond .eq 23, 3) := by decide +kernel
theorem dX10_fitOf_198 : decode cX10_fitOf 198 = .ok (.aload_n 0, 1) := by decide +kernel
theorem dX10_fitOf_199 : decode cX10_fitOf 199 = .ok (.getfield 19, 3) := by decide +kernel
theorem dX10_fitOf_202 : decode cX10_fitOf 202 = .ok (.iload_n 1, 1) := by decide +kernel
theorem dX10_fitOf_203 : decode cX10_fitOf 203 = .ok (.iaload, 1) := by decide +kernel
theorem dX10_fitOf_204 : decode cX10_fitOf 204 = .ok (.aload_n 0, 1) := by decide +kernel
theorem dX10_fitOf_205 : decode cX10_fitOf 205 = .ok (.getfield 19, 3) := by decide +kernel
theorem dX10_fitOf_208 : decode cX10_fitOf 208 = .ok (.iload_n 3, 1) := by decide +kernel
theorem dX10_fitOf_209 : decode cX10_fitOf 209 = .ok (.iaload, 1) := by decide +kernel
theorem dX10_fitOf_210 : decode cX10_fitOf 210 = .ok (.if_icmp .ne 8, 3) := by decide +kernel
theorem dX10_fitOf_213 : decode cX10_fitOf 213 = .ok (.bipush 50, 2) := by decide +kernel
theorem dX10_fitOf_215 : decode cX10_fitOf 215 = .ok (.goto 4, 3) := by decide +kernel
theorem dX10_fitOf_218 : decode cX10_fitOf 218 = .ok (.iconst 0, 1) := by decide +kernel
theorem dX10_fitOf_219 : decode cX10_fitOf 219 = .ok (.iadd, 1) := by decide +kernel
theorem dX10_fitOf_220 : decode cX10_fitOf 220 = .ok (.aload_n 0, 1) := by decide +kernel
theorem dX10_fitOf_221 : decode cX10_fitOf 221 = .ok (.getfield 16, 3) := by decide +kernel
theorem dX10_fitOf_224 : decode cX10_fitOf 224 = .ok (.iload_n 1, 1) := by decide +kernel
theorem dX10_fitOf_225 : decode cX10_fitOf 225 = .ok (.iaload, 1) := by decide +kernel
theorem dX10_fitOf_226 : decode cX10_fitOf 226 = .ok (.aload_n 0, 1) := by decide +kernel
theorem dX10_fitOf_227 : decode cX10_fitOf 227 = .ok (.getfield 16, 3) := by decide +kernel
theorem dX10_fitOf_230 : decode cX10_fitOf 230 = .ok (.iload_n 3, 1) := by decide +kernel
theorem dX10_fitOf_231 : decode cX10_fitOf 231 = .ok (.iaload, 1) := by decide +kernel
theorem dX10_fitOf_232 : decode cX10_fitOf 232 = .ok (.if_icmp .ne 8, 3) := by decide +kernel
theorem dX10_fitOf_235 : decode cX10_fitOf 235 = .ok (.bipush 30, 2) := by decide +kernel
theorem dX10_fitOf_237 : decode cX10_fitOf 237 = .ok (.goto 4, 3) := by decide +kernel
theorem dX10_fitOf_240 : decode cX10_fitOf 240 = .ok (.iconst 0, 1) := by decide +kernel
theorem dX10_fitOf_241 : decode cX10_fitOf 241 = .ok (.iadd, 1) := by decide +kernel
theorem dX10_fitOf_242 : decode cX10_fitOf 242 = .ok (.bipush 10, 2) := by decide +kernel
theorem dX10_fitOf_244 : decode cX10_fitOf 244 = .ok (.iload 6, 2) := by decide +kernel
theorem dX10_fitOf_246 : decode cX10_fitOf 246 = .ok (.iconst 5, 1) := by decide +kernel
theorem dX10_fitOf_247 : decode cX10_fitOf 247 = .ok (.if_icmp .ge 8, 3) := by decide +kernel
theorem dX10_fitOf_250 : decode cX10_fitOf 250 = .ok (.iload 6, 2) := by decide +kernel
theorem dX10_fitOf_252 : decode cX10_fitOf 252 = .ok (.goto 4, 3) := by decide +kernel
theorem dX10_fitOf_255 : decode cX10_fitOf 255 = .ok (.iconst 5, 1) := by decide +kernel
theorem dX10_fitOf_256 : decode cX10_fitOf 256 = .ok (.imul, 1) := by decide +kernel
theorem dX10_fitOf_257 : decode cX10_fitOf 257 = .ok (.iadd, 1) := by decide +kernel
theorem dX10_fitOf_258 : decode cX10_fitOf 258 = .ok (.istore 7, 2) := by decide +kernel
theorem dX10_fitOf_260 : decode cX10_fitOf 260 = .ok (.iload 7, 2) := by decide +kernel
theorem dX10_fitOf_262 : decode cX10_fitOf 262 = .ok (.iconst 1, 1) := by decide +kernel
theorem dX10_fitOf_263 : decode cX10_fitOf 263 = .ok (.if_icmp .ge 7, 3) := by decide +kernel
theorem dX10_fitOf_266 : decode cX10_fitOf 266 = .ok (.iconst 1, 1) := by decide +kernel
theorem dX10_fitOf_267 : decode cX10_fitOf 267 = .ok (.goto 5, 3) := by decide +kernel
theorem dX10_fitOf_270 : decode cX10_fitOf 270 = .ok (.iload 7, 2) := by decide +kernel
theorem dX10_fitOf_272 : decode cX10_fitOf 272 = .ok (.ireturn, 1) := by decide +kernel
theorem dX10_fit_0 : decode cX10_fit 0 = .ok (.aload_n 0, 1) := by decide +kernel
theorem dX10_fit_1 : decode cX10_fit 1 = .ok (.iconst 0, 1) := by decide +kernel
theorem dX10_fit_2 : decode cX10_fit 2 = .ok (.iload_n 1, 1) := by decide +kernel
theorem dX10_fit_3 : decode cX10_fit 3 = .ok (.invokevirtual 150, 3) := by decide +kernel
theorem dX10_fit_6 : decode cX10_fit 6 = .ok (.ifCond .eq 21, 3) := by decide +kernel
theorem dX10_fit_9 : decode cX10_fit 9 = .ok (.aload_n 0, 1) := by decide +kernel
theorem dX10_fit_10 : decode cX10_fit 10 = .ok (.iconst 1, 1) := by decide +kernel
theorem dX10_fit_11 : decode cX10_fit 11 = .ok (.iload_n 2, 1) := by decide +kernel
theorem dX10_fit_12 : decode cX10_fit 12 = .ok (.invokevirtual 150, 3) := by decide +kernel
theorem dX10_fit_15 : decode cX10_fit 15 = .ok (.ifCond .eq 12, 3) := by decide +kernel
theorem dX10_fit_18 : decode cX10_fit 18 = .ok (.aload_n 0, 1) := by decide +kernel
theorem dX10_fit_19 : decode cX10_fit 19 = .ok (.iload_n 1, 1) := by decide +kernel
theorem dX10_fit_20 : decode cX10_fit 20 = .ok (.iload_n 2, 1) := by decide +kernel
theorem dX10_fit_21 : decode cX10_fit 21 = .ok (.invokevirtual 162, 3) := by decide +kernel
theorem dX10_fit_24 : decode cX10_fit 24 = .ok (.goto 4, 3) := by decide +kernel
theorem dX10_fit_27 : decode cX10_fit 27 = .ok (.iconst (-1), 1) := by decide +kernel
theorem dX10_fit_28 : decode cX10_fit 28 = .ok (.ireturn, 1) := by decide +kernel
theorem dX10_reckon_0 : decode cX10_reckon 0 = .ok (.iconst 1, 1) := by decide +kernel
theorem dX10_reckon_1 : decode cX10_reckon 1 = .ok (.aload_n 0, 1) := by decide +kernel
theorem dX10_reckon_2 : decode cX10_reckon 2 = .ok (.getfield 165, 3) := by decide +kernel
theorem dX10_reckon_5 : decode cX10_reckon 5 = .ok (.ishl, 1) := by decide +kernel
theorem dX10_reckon_6 : decode cX10_reckon 6 = .ok (.istore_n 3, 1) := by decide +kernel
theorem dX10_reckon_7 : decode cX10_reckon 7 = .ok (.iconst 0, 1) := by decide +kernel
theorem dX10_reckon_8 : decode cX10_reckon 8 = .ok (.istore 4, 2) := by decide +kernel
theorem dX10_reckon_10 : decode cX10_reckon 10 = .ok (.iload 4, 2) := by decide +kernel
theorem dX10_reckon_12 : decode cX10_reckon 12 = .ok (.iload_n 3, 1) := by decide +kernel
theorem dX10_reckon_13 : decode cX10_reckon 13 = .ok (.if_icmp .ge 25, 3) := by decide +kernel
theorem dX10_reckon_16 : decode cX10_reckon 16 = .ok (.aload_n 0, 1) := by decide +kernel
theorem dX10_reckon_17 : decode cX10_reckon 17 = .ok (.getfield 64, 3) := by decide +kernel
theorem dX10_reckon_20 : decode cX10_reckon 20 = .ok (.aload_n 0, 1) := by decide +kernel
theorem dX10_reckon_21 : decode cX10_reckon 21 = .ok (.getfield 168, 3) := by decide +kernel
theorem dX10_reckon_24 : decode cX10_reckon 24 = .ok (.bipush 14, 2) := by decide +kernel
theorem dX10_reckon_26 : decode cX10_reckon 26 = .ok (.ishl, 1) := by decide +kernel
theorem dX10_reckon_27 : decode cX10_reckon 27 = .ok (.iload 4, 2) := by decide +kernel
theorem dX10_reckon_29 : decode cX10_reckon 29 = .ok (.iadd, 1) := by decide +kernel
theorem dX10_reckon_30 : decode cX10_reckon 30 = .ok (.iconst 0, 1) := by decide +kernel
theorem dX10_reckon_31 : decode cX10_reckon 31 = .ok (.iastore, 1) := by decide +kernel
theorem dX10_reckon_32 : decode cX10_reckon 32 = .ok (.iinc 4 1, 3) := by decide +kernel
theorem dX10_reckon_35 : decode cX10_reckon 35 = .ok (.goto (-25), 3) := by decide +kernel
theorem dX10_reckon_38 : decode cX10_reckon 38 = .ok (.aload_n 0, 1) := by decide +kernel
theorem dX10_reckon_39 : decode cX10_reckon 39 = .ok (.getfield 168, 3) := by decide +kernel
theorem dX10_reckon_42 : decode cX10_reckon 42 = .ok (.iconst 1, 1) := by decide +kernel
theorem dX10_reckon_43 : decode cX10_reckon 43 = .ok (.isub, 1) := by decide +kernel
theorem dX10_reckon_44 : decode cX10_reckon 44 = .ok (.istore 4, 2) := by decide +kernel
theorem dX10_reckon_46 : decode cX10_reckon 46 = .ok (.iload 4, 2) := by decide +kernel
theorem dX10_reckon_48 : decode cX10_reckon 48 = .ok (.ifCond .lt 157, 3) := by decide +kernel
theorem dX10_reckon_51 : decode cX10_reckon 51 = .ok (.iconst 0, 1) := by decide +kernel
theorem dX10_reckon_52 : decode cX10_reckon 52 = .ok (.istore 5, 2) := by decide +kernel
theorem dX10_reckon_54 : decode cX10_reckon 54 = .ok (.iload 5, 2) := by decide +kernel
theorem dX10_reckon_56 : decode cX10_reckon 56 = .ok (.iload_n 3, 1) := by decide +kernel
theorem dX10_reckon_57 : decode cX10_reckon 57 = .ok (.if_icmp .ge 142, 3) := by decide +kernel
theorem dX10_reckon_60 : decode cX10_reckon 60 = .ok (.aload_n 0, 1) := by decide +kernel
theorem dX10_reckon_61 : decode cX10_reckon 61 = .ok (.getfield 64, 3) := by decide +kernel
theorem dX10_reckon_64 : decode cX10_reckon 64 = .ok (.iload 4, 2) := by decide +kernel
theorem dX10_reckon_66 : decode cX10_reckon 66 = .ok (.iconst 1, 1) := by decide +kernel
theorem dX10_reckon_67 : decode cX10_reckon 67 = .ok (.iadd, 1) := by decide +kernel
theorem dX10_reckon_68 : decode cX10_reckon 68 = .ok (.bipush 14, 2) := by decide +kernel
theorem dX10_reckon_70 : decode cX10_reckon 70 = .ok (.ishl, 1) := by decide +kernel
theorem dX10_reckon_71 : decode cX10_reckon 71 = .ok (.iload 5, 2) := by decide +kernel
theorem dX10_reckon_73 : decode cX10_reckon 73 = .ok (.iadd, 1) := by decide +kernel
theorem dX10_reckon_74 : decode cX10_reckon 74 = .ok (.iaload, 1) := by decide +kernel
theorem dX10_reckon_75 : decode cX10_reckon 75 = .ok (.istore 6, 2) := by decide +kernel
theorem dX10_reckon_77 : decode cX10_reckon 77 = .ok (.iconst 0, 1) := by decide +kernel
theorem dX10_reckon_78 : decode cX10_reckon 78 = .ok (.istore 7, 2) := by decide +kernel
theorem dX10_reckon_80 : decode cX10_reckon 80 = .ok (.iload 7, 2) := by decide +kernel
theorem dX10_reckon_82 : decode cX10_reckon 82 = .ok (.aload_n 0, 1) := by decide +kernel
theorem dX10_reckon_83 : decode cX10_reckon 83 = .ok (.getfield 165, 3) := by decide +kernel
theorem dX10_reckon_86 : decode cX10_reckon 86 = .ok (.if_icmp .ge 92, 3) := by decide +kernel
theorem dX10_reckon_89 : decode cX10_reckon 89 = .ok (.aload_n 0, 1) := by decide +kernel
theorem dX10_reckon_90 : decode cX10_reckon 90 = .ok (.getfield 60, 3) := by decide +kernel
theorem dX10_reckon_93 : decode cX10_reckon 93 = .ok (.bipush 14, 2) := by decide +kernel
theorem dX10_reckon_95 : decode cX10_reckon 95 = .ok (.iload 4, 2) := by decide +kernel
theorem dX10_reckon_97 : decode cX10_reckon 97 = .ok (.imul, 1) := by decide +kernel
theorem dX10_reckon_98 : decode cX10_reckon 98 = .ok (.iload 7, 2) := by decide +kernel
theorem dX10_reckon_100 : decode cX10_reckon 100 = .ok (.iadd, 1) := by decide +kernel
theorem dX10_reckon_101 : decode cX10_reckon 101 = .ok (.iaload, 1) := by decide +kernel
theorem dX10_reckon_102 : decode cX10_reckon 102 = .ok (.istore 8, 2) := by decide +kernel
theorem dX10_reckon_104 : decode cX10_reckon 104 = .ok (.iload 5, 2) := by decide +kernel
theorem dX10_reckon_106 : decode cX10_reckon 106 = .ok (.iload 7, 2) := by decide +kernel
theorem dX10_reckon_108 : decode cX10_reckon 108 = .ok (.ishr, 1) := by decide +kernel
theorem dX10_reckon_109 : decode cX10_reckon 109 = .ok (.iconst 1, 1) := by decide +kernel
theorem dX10_reckon_110 : decode cX10_reckon 110 = .ok (.iand, 1) := by decide +kernel
theorem dX10_reckon_111 : decode cX10_reckon 111 = .ok (.ifCond .ne 61, 3) := by decide +kernel
theorem dX10_reckon_114 : decode cX10_reckon 114 = .ok (.iload 8, 2) := by decide +kernel
theorem dX10_reckon_116 : decode cX10_reckon 116 = .ok (.ifCond .le 56, 3) := by decide +kernel
theorem dX10_reckon_119 : decode cX10_reckon 119 = .ok (.iload 4, 2) := by decide +kernel
theorem dX10_reckon_121 : decode cX10_reckon 121 = .ok (.iload_n 1, 1) := by decide +kernel
theorem dX10_reckon_122 : decode cX10_reckon 122 = .ok (.if_icmp .ne 9, 3) := by decide +kernel
theorem dX10_reckon_125 : decode cX10_reckon 125 = .ok (.iload 7, 2) := by decide +kernel
theorem dX10_reckon_127 : decode cX10_reckon 127 = .ok (.iload_n 2, 1) := by decide +kernel
theorem dX10_reckon_128 : decode cX10_reckon 128 = .ok (.if_icmp .eq 44, 3) := by decide +kernel
theorem dX10_reckon_131 : decode cX10_reckon 131 = .ok (.iload 8, 2) := by decide +kernel
theorem dX10_reckon_133 : decode cX10_reckon 133 = .ok (.aload_n 0, 1) := by decide +kernel
theorem dX10_reckon_134 : decode cX10_reckon 134 = .ok (.getfield 64, 3) := by decide +kernel
theorem dX10_reckon_137 : decode cX10_reckon 137 = .ok (.iload 4, 2) := by decide +kernel
theorem dX10_reckon_139 : decode cX10_reckon 139 = .ok (.iconst 1, 1) := by decide +kernel
theorem dX10_reckon_140 : decode cX10_reckon 140 = .ok (.iadd, 1) := by decide +kernel
theorem dX10_reckon_141 : decode cX10_reckon 141 = .ok (.bipush 14, 2) := by decide +kernel
theorem dX10_reckon_143 : decode cX10_reckon 143 = .ok (.ishl, 1) := by decide +kernel
theorem dX10_reckon_144 : decode cX10_reckon 144 = .ok (.iload 5, 2) := by decide +kernel
theorem dX10_reckon_146 : decode cX10_reckon 146 = .ok (.iconst 1, 1) := by decide +kernel
theorem dX10_reckon_147 : decode cX10_reckon 147 = .ok (.iload 7, 2) := by decide +kernel
theorem dX10_reckon_149 : decode cX10_reckon 149 = .ok (.ishl, 1) := by decide +kernel
theorem dX10_reckon_150 : decode cX10_reckon 150 = .ok (.ior, 1) := by decide +kernel
theorem dX10_reckon_151 : decode cX10_reckon 151 = .ok (.iadd, 1) := by decide +kernel
theorem dX10_reckon_152 : decode cX10_reckon 152 = .ok (.iaload, 1) := by decide +kernel
theorem dX10_reckon_153 : decode cX10_reckon 153 = .ok (.iadd, 1) := by decide +kernel
theorem dX10_reckon_154 : decode cX10_reckon 154 = .ok (.istore 9, 2) := by decide +kernel
theorem dX10_reckon_156 : decode cX10_reckon 156 = .ok (.iload 9, 2) := by decide +kernel
theorem dX10_reckon_158 : decode cX10_reckon 158 = .ok (.iload 6, 2) := by decide +kernel
theorem dX10_reckon_160 : decode cX10_reckon 160 = .ok (.if_icmp .le 8, 3) := by decide +kernel
theorem dX10_reckon_163 : decode cX10_reckon 163 = .ok (.iload 9, 2) := by decide +kernel
theorem dX10_reckon_165 : decode cX10_reckon 165 = .ok (.goto 5, 3) := by decide +kernel
theorem dX10_reckon_168 : decode cX10_reckon 168 = .ok (.iload 6, 2) := by decide +kernel
theorem dX10_reckon_170 : decode cX10_reckon 170 = .ok (.istore 6, 2) := by decide +kernel
theorem dX10_reckon_172 : decode cX10_reckon 172 = .ok (.iinc 7 1, 3) := by decide +kernel
theorem dX10_reckon_175 : decode cX10_reckon 175 = .ok (.goto (-95), 3) := by decide +kernel
theorem dX10_reckon_178 : decode cX10_reckon 178 = .ok (.aload_n 0, 1) := by decide +kernel
theorem dX10_reckon_179 : decode cX10_reckon 179 = .ok (.getfield 64, 3) := by decide +kernel
theorem dX10_reckon_182 : decode cX10_reckon 182 = .ok (.iload 4, 2) := by decide +kernel
theorem dX10_reckon_184 : decode cX10_reckon 184 = .ok (.bipush 14, 2) := by decide +kernel
theorem dX10_reckon_186 : decode cX10_reckon 186 = .ok (.ishl, 1) := by decide +kernel
theorem dX10_reckon_187 : decode cX10_reckon 187 = .ok (.iload 5, 2) := by decide +kernel
theorem dX10_reckon_189 : decode cX10_reckon 189 = .ok (.iadd, 1) := by decide +kernel
theorem dX10_reckon_190 : decode cX10_reckon 190 = .ok (.iload 6, 2) := by decide +kernel
theorem dX10_reckon_192 : decode cX10_reckon 192 = .ok (.iastore, 1) := by decide +kernel
theorem dX10_reckon_193 : decode cX10_reckon 193 = .ok (.iinc 5 1, 3) := by decide +kernel
theorem dX10_reckon_196 : decode cX10_reckon 196 = .ok (.goto (-142), 3) := by decide +kernel
theorem dX10_reckon_199 : decode cX10_reckon 199 = .ok (.iinc 4 (-1), 3) := by decide +kernel
theorem dX10_reckon_202 : decode cX10_reckon 202 = .ok (.goto (-156), 3) := by decide +kernel
theorem dX10_reckon_205 : decode cX10_reckon 205 = .ok (.aload_n 0, 1) := by decide +kernel
theorem dX10_reckon_206 : decode cX10_reckon 206 = .ok (.getfield 64, 3) := by decide +kernel
theorem dX10_reckon_209 : decode cX10_reckon 209 = .ok (.iconst 0, 1) := by decide +kernel
theorem dX10_reckon_210 : decode cX10_reckon 210 = .ok (.iaload, 1) := by decide +kernel
theorem dX10_reckon_211 : decode cX10_reckon 211 = .ok (.ireturn, 1) := by decide +kernel
theorem dX10_breaksOf_0 : decode cX10_breaksOf 0 = .ok (.iconst 0, 1) := by decide +kernel
theorem dX10_breaksOf_1 : decode cX10_breaksOf 1 = .ok (.istore 4, 2) := by decide +kernel
theorem dX10_breaksOf_3 : decode cX10_breaksOf 3 = .ok (.iload_n 1, 1) := by decide +kernel
theorem dX10_breaksOf_4 : decode cX10_breaksOf 4 = .ok (.istore 5, 2) := by decide +kernel
theorem dX10_breaksOf_6 : decode cX10_breaksOf 6 = .ok (.iload 5, 2) := by decide +kernel
theorem dX10_breaksOf_8 : decode cX10_breaksOf 8 = .ok (.iload_n 2, 1) := by decide +kernel
theorem dX10_breaksOf_9 : decode cX10_breaksOf 9 = .ok (.if_icmp .ge 34, 3) := by decide +kernel
theorem dX10_breaksOf_12 : decode cX10_breaksOf 12 = .ok (.aload_n 3, 1) := by decide +kernel
theorem dX10_breaksOf_13 : decode cX10_breaksOf 13 = .ok (.iload 5, 2) := by decide +kernel
theorem dX10_breaksOf_15 : decode cX10_breaksOf 15 = .ok (.iaload, 1) := by decide +kernel
theorem dX10_breaksOf_16 : decode cX10_breaksOf 16 = .ok (.ifCond .ge 21, 3) := by decide +kernel
theorem dX10_breaksOf_19 : decode cX10_breaksOf 19 = .ok (.iload 4, 2) := by decide +kernel
theorem dX10_breaksOf_21 : decode cX10_breaksOf 21 = .ok (.aload_n 0, 1) := by decide +kernel
theorem dX10_breaksOf_22 : decode cX10_breaksOf 22 = .ok (.arraylength, 1) := by decide +kernel
theorem dX10_breaksOf_23 : decode cX10_breaksOf 23 = .ok (.if_icmp .ge 11, 3) := by decide +kernel
theorem dX10_breaksOf_26 : decode cX10_breaksOf 26 = .ok (.aload_n 0, 1) := by decide +kernel
theorem dX10_breaksOf_27 : decode cX10_breaksOf 27 = .ok (.iload 4, 2) := by decide +kernel
theorem dX10_breaksOf_29 : decode cX10_breaksOf 29 = .ok (.iload 5, 2) := by decide +kernel
theorem dX10_breaksOf_31 : decode cX10_breaksOf 31 = .ok (.iload_n 1, 1) := by decide +kernel
theorem dX10_breaksOf_32 : decode cX10_breaksOf 32 = .ok (.isub, 1) := by decide +kernel
theorem dX10_breaksOf_33 : decode cX10_breaksOf 33 = .ok (.iastore, 1) := by decide +kernel
theorem dX10_breaksOf_34 : decode cX10_breaksOf 34 = .ok (.iinc 4 1, 3) := by decide +kernel
theorem dX10_breaksOf_37 : decode cX10_breaksOf 37 = .ok (.iinc 5 1, 3) := by decide +kernel
theorem dX10_breaksOf_40 : decode cX10_breaksOf 40 = .ok (.goto (-34), 3) := by decide +kernel
theorem dX10_breaksOf_43 : decode cX10_breaksOf 43 = .ok (.iload 4, 2) := by decide +kernel
theorem dX10_breaksOf_45 : decode cX10_breaksOf 45 = .ok (.ireturn, 1) := by decide +kernel
theorem dX10_best_0 : decode cX10_best 0 = .ok (.aload_n 0, 1) := by decide +kernel
theorem dX10_best_1 : decode cX10_best 1 = .ok (.aload_n 0, 1) := by decide +kernel
theorem dX10_best_2 : decode cX10_best 2 = .ok (.getfield 54, 3) := by decide +kernel
theorem dX10_best_5 : decode cX10_best 5 = .ok (.iconst 0, 1) := by decide +kernel
theorem dX10_best_6 : decode cX10_best 6 = .ok (.aload_n 0, 1) := by decide +kernel
theorem dX10_best_7 : decode cX10_best 7 = .ok (.getfield 28, 3) := by decide +kernel
theorem dX10_best_10 : decode cX10_best 10 = .ok (.iconst 0, 1) := by decide +kernel
theorem dX10_best_11 : decode cX10_best 11 = .ok (.iaload, 1) := by decide +kernel
theorem dX10_best_12 : decode cX10_best 12 = .ok (.aload_n 0, 1) := by decide +kernel
theorem dX10_best_13 : decode cX10_best 13 = .ok (.getfield 25, 3) := by decide +kernel
theorem dX10_best_16 : decode cX10_best 16 = .ok (.invokestatic 171, 3) := by decide +kernel
theorem dX10_best_19 : decode cX10_best 19 = .ok (.putfield 168, 3) := by decide +kernel
theorem dX10_best_22 : decode cX10_best 22 = .ok (.aload_n 0, 1) := by decide +kernel
theorem dX10_best_23 : decode cX10_best 23 = .ok (.aload_n 0, 1) := by decide +kernel
theorem dX10_best_24 : decode cX10_best 24 = .ok (.getfield 57, 3) := by decide +kernel
theorem dX10_best_27 : decode cX10_best 27 = .ok (.bipush 80, 2) := by decide +kernel
theorem dX10_best_29 : decode cX10_best 29 = .ok (.bipush 80, 2) := by decide +kernel
theorem dX10_best_31 : decode cX10_best 31 = .ok (.aload_n 0, 1) := by decide +kernel
theorem dX10_best_32 : decode cX10_best 32 = .ok (.getfield 28, 3) := by decide +kernel
theorem dX10_best_35 : decode cX10_best 35 = .ok (.iconst 1, 1) := by decide +kernel
theorem dX10_best_36 : decode cX10_best 36 = .ok (.iaload, 1) := by decide +kernel
theorem dX10_best_37 : decode cX10_best 37 = .ok (.iadd, 1) := by decide +kernel
theorem dX10_best_38 : decode cX10_best 38 = .ok (.aload_n 0, 1) := by decide +kernel
theorem dX10_best_39 : decode cX10_best 39 = .ok (.getfield 25, 3) := by decide +kernel
theorem dX10_best_42 : decode cX10_best 42 = .ok (.invokestatic 171, 3) := by decide +kernel
theorem dX10_best_45 : decode cX10_best 45 = .ok (.putfield 165, 3) := by decide +kernel
theorem dX10_best_48 : decode cX10_best 48 = .ok (.aload_n 0, 1) := by decide +kernel
theorem dX10_best_49 : decode cX10_best 49 = .ok (.getfield 168, 3) := by decide +kernel
theorem dX10_best_52 : decode cX10_best 52 = .ok (.bipush 14, 2) := by decide +kernel
theorem dX10_best_54 : decode cX10_best 54 = .ok (.if_icmp .gt 12, 3) := by decide +kernel
theorem dX10_best_57 : decode cX10_best 57 = .ok (.aload_n 0, 1) := by decide +kernel
theorem dX10_best_58 : decode cX10_best 58 = .ok (.getfield 165, 3) := by decide +kernel
theorem dX10_best_61 : decode cX10_best 61 = .ok (.bipush 14, 2) := by decide +kernel
theorem dX10_best_63 : decode cX10_best 63 = .ok (.if_icmp .le 11, 3) := by decide +kernel
theorem dX10_best_66 : decode cX10_best 66 = .ok (.aload_n 0, 1) := by decide +kernel
theorem dX10_best_67 : decode cX10_best 67 = .ok (.iconst 0, 1) := by decide +kernel
theorem dX10_best_68 : decode cX10_best 68 = .ok (.putfield 123, 3) := by decide +kernel
theorem dX10_best_71 : decode cX10_best 71 = .ok (.bipush (-4), 2) := by decide +kernel
theorem dX10_best_73 : decode cX10_best 73 = .ok (.ireturn, 1) := by decide +kernel
theorem dX10_best_74 : decode cX10_best 74 = .ok (.aload_n 0, 1) := by decide +kernel
theorem dX10_best_75 : decode cX10_best 75 = .ok (.getfield 168, 3) := by decide +kernel
theorem dX10_best_78 : decode cX10_best 78 = .ok (.aload_n 0, 1) := by decide +kernel
theorem dX10_best_79 : decode cX10_best 79 = .ok (.getfield 73, 3) := by decide +kernel
theorem dX10_best_82 : decode cX10_best 82 = .ok (.if_icmp .ne 18, 3) := by decide +kernel
theorem dX10_best_85 : decode cX10_best 85 = .ok (.aload_n 0, 1) := by decide +kernel
theorem dX10_best_86 : decode cX10_best 86 = .ok (.getfield 165, 3) := by decide +kernel
theorem dX10_best_89 : decode cX10_best 89 = .ok (.aload_n 0, 1) := by decide +kernel
theorem dX10_best_90 : decode cX10_best 90 = .ok (.getfield 76, 3) := by decide +kernel
theorem dX10_best_93 : decode cX10_best 93 = .ok (.if_icmp .ne 7, 3) := by decide +kernel
theorem dX10_best_96 : decode cX10_best 96 = .ok (.iconst 1, 1) := by decide +kernel
theorem dX10_best_97 : decode cX10_best 97 = .ok (.goto 4, 3) := by decide +kernel
theorem dX10_best_100 : decode cX10_best 100 = .ok (.iconst 0, 1) := by decide +kernel
theorem dX10_best_101 : decode cX10_best 101 = .ok (.istore_n 1, 1) := by decide +kernel
theorem dX10_best_102 : decode cX10_best 102 = .ok (.iconst 0, 1) := by decide +kernel
theorem dX10_best_103 : decode cX10_best 103 = .ok (.istore_n 2, 1) := by decide +kernel
theorem dX10_best_104 : decode cX10_best 104 = .ok (.iload_n 2, 1) := by decide +kernel
theorem dX10_best_105 : decode cX10_best 105 = .ok (.aload_n 0, 1) := by decide +kernel
theorem dX10_best_106 : decode cX10_best 106 = .ok (.getfield 168, 3) := by decide +kernel
theorem dX10_best_109 : decode cX10_best 109 = .ok (.if_icmp .ge 82, 3) := by decide +kernel
theorem dX10_best_112 : decode cX10_best 112 = .ok (.iconst 0, 1) := by decide +kernel
theorem dX10_best_113 : decode cX10_best 113 = .ok (.istore_n 3, 1) := by decide +kernel
theorem dX10_best_114 : decode cX10_best 114 = .ok (.iload_n 3, 1) := by decide +kernel
theorem dX10_best_115 : decode cX10_best 115 = .ok (.aload_n 0, 1) := by decide +kernel
theorem dX10_best_116 : decode cX10_best 116 = .ok (.getfield 165, 3) := by decide +kernel
theorem dX10_best_119 : decode cX10_best 119 = .ok (.if_icmp .ge 66, 3) := by decide +kernel
theorem dX10_best_122 : decode cX10_best 122 = .ok (.aload_n 0, 1) := by decide +kernel
theorem dX10_best_123 : decode cX10_best 123 = .ok (.aload_n 0, 1) := by decide +kernel
theorem dX10_best_124 : decode cX10_best 124 = .ok (.getfield 54, 3) := by decide +kernel
theorem dX10_best_127 : decode cX10_best 127 = .ok (.iload_n 2, 1) := by decide +kernel
theorem dX10_best_128 : decode cX10_best 128 = .ok (.iaload, 1) := by decide +kernel
theorem dX10_best_129 : decode cX10_best 129 = .ok (.aload_n 0, 1) := by decide +kernel
theorem dX10_best_130 : decode cX10_best 130 = .ok (.getfield 57, 3) := by decide +kernel
theorem dX10_best_133 : decode cX10_best 133 = .ok (.iload_n 3, 1) := by decide +kernel
theorem dX10_best_134 : decode cX10_best 134 = .ok (.iaload, 1) := by decide +kernel
theorem dX10_best_135 : decode cX10_best 135 = .ok (.invokevirtual 162, 3) := by decide +kernel
theorem dX10_best_138 : decode cX10_best 138 = .ok (.istore 4, 2) := by decide +kernel
theorem dX10_best_140 : decode cX10_best 140 = .ok (.iload_n 1, 1) := by decide +kernel
theorem dX10_best_141 : decode cX10_best 141 = .ok (.ifCond .eq 23, 3) := by decide +kernel
theorem dX10_best_144 : decode cX10_best 144 = .ok (.aload_n 0, 1) := by decide +kernel
theorem dX10_best_145 : decode cX10_best 145 = .ok (.getfield 60, 3) := by decide +kernel
theorem dX10_best_148 : decode cX10_best 148 = .ok (.bipush 14, 2) := by decide +kernel
theorem dX10_best_150 : decode cX10_best 150 = .ok (.iload_n 2, 1) := by decide +kernel
theorem dX10_best_151 : decode cX10_best 151 = .ok (.imul, 1) := by decide +kernel
theorem dX10_best_152 : decode cX10_best 152 = .ok (.iload_n 3, 1) := by decide +kernel
theorem dX10_best_153 : decode cX10_best 153 = .ok (.iadd, 1) := by decide +kernel
theorem dX10_best_154 : decode cX10_best 154 = .ok (.iaload, 1) := by decide +kernel
theorem dX10_best_155 : decode cX10_best 155 = .ok (.iload 4, 2) := by decide +kernel
theorem dX10_best_157 : decode cX10_best 157 = .ok (.if_icmp .ne 7, 3) := by decide +kernel
theorem dX10_best_160 : decode cX10_best 160 = .ok (.iconst 1, 1) := by decide +kernel
theorem dX10_best_161 : decode cX10_best 161 = .ok (.goto 4, 3) := by decide +kernel
theorem dX10_best_164 : decode cX10_best 164 = .ok (.iconst 0, 1) := by decide +kernel
theorem dX10_best_165 : decode cX10_best 165 = .ok (.istore_n 1, 1) := by decide +kernel
theorem dX10_best_166 : decode cX10_best 166 = .ok (.aload_n 0, 1) := by decide +kernel
theorem dX10_best_167 : decode cX10_best 167 = .ok (.getfield 60, 3) := by decide +kernel
theorem dX10_best_170 : decode cX10_best 170 = .ok (.bipush 14, 2) := by decide +kernel
theorem dX10_best_172 : decode cX10_best 172 = .ok (.iload_n 2, 1) := by decide +kernel
theorem dX10_best_173 : decode cX10_best 173 = .ok (.imul, 1) := by decide +kernel
theorem dX10_best_174 : decode cX10_best 174 = .ok (.iload_n 3, 1) := by decide +kernel
theorem dX10_best_175 : decode cX10_best 175 = .ok (.iadd, 1) := by decide +kernel
theorem dX10_best_176 : decode cX10_best 176 = .ok (.iload 4, 2) := by decide +kernel
theorem dX10_best_178 : decode cX10_best 178 = .ok (.iastore, 1) := by decide +kernel
theorem dX10_best_179 : decode cX10_best 179 = .ok (.iinc 3 1, 3) := by decide +kernel
theorem dX10_best_182 : decode cX10_best 182 = .ok (.goto (-68), 3) := by decide +kernel
theorem dX10_best_185 : decode cX10_best 185 = .ok (.iinc 2 1, 3) := by decide +kernel
theorem dX10_best_188 : decode cX10_best 188 = .ok (.goto (-84), 3) := by decide +kernel
theorem dX10_best_191 : decode cX10_best 191 = .ok (.aload_n 0, 1) := by decide +kernel
theorem dX10_best_192 : decode cX10_best 192 = .ok (.aload_n 0, 1) := by decide +kernel
theorem dX10_best_193 : decode cX10_best 193 = .ok (.getfield 168, 3) := by decide +kernel
theorem dX10_best_196 : decode cX10_best 196 = .ok (.putfield 73, 3) := by decide +kernel
theorem dX10_best_199 : decode cX10_best 199 = .ok (.aload_n 0, 1) := by decide +kernel
theorem dX10_best_200 : decode cX10_best 200 = .ok (.aload_n 0, 1) := by decide +kernel
theorem dX10_best_201 : decode cX10_best 201 = .ok (.getfield 165, 3) := by decide +kernel
theorem dX10_best_204 : decode cX10_best 204 = .ok (.putfield 76, 3) := by decide +kernel
theorem dX10_best_207 : decode cX10_best 207 = .ok (.aload_n 0, 1) := by decide +kernel
theorem dX10_best_208 : decode cX10_best 208 = .ok (.aload_n 0, 1) := by decide +kernel
theorem dX10_best_209 : decode cX10_best 209 = .ok (.iconst (-1), 1) := by decide +kernel
theorem dX10_best_210 : decode cX10_best 210 = .ok (.iconst (-1), 1) := by decide +kernel
theorem dX10_best_211 : decode cX10_best 211 = .ok (.invokevirtual 175, 3) := by decide +kernel
theorem dX10_best_214 : decode cX10_best 214 = .ok (.putfield 178, 3) := by decide +kernel
theorem dX10_best_217 : decode cX10_best 217 = .ok (.iconst 0, 1) := by decide +kernel
theorem dX10_best_218 : decode cX10_best 218 = .ok (.istore_n 2, 1) := by decide +kernel
theorem dX10_best_219 : decode cX10_best 219 = .ok (.iconst 0, 1) := by decide +kernel
theorem dX10_best_220 : decode cX10_best 220 = .ok (.istore_n 3, 1) := by decide +kernel
theorem dX10_best_221 : decode cX10_best 221 = .ok (.iload_n 3, 1) := by decide +kernel
theorem dX10_best_222 : decode cX10_best 222 = .ok (.aload_n 0, 1) := by decide +kernel
theorem dX10_best_223 : decode cX10_best 223 = .ok (.getfield 168, 3) := by decide +kernel
theorem dX10_best_226 : decode cX10_best 226 = .ok (.if_icmp .ge 150, 3) := by decide +kernel
theorem dX10_best_229 : decode cX10_best 229 = .ok (.aload_n 0, 1) := by decide +kernel
theorem dX10_best_230 : decode cX10_best 230 = .ok (.getfield 64, 3) := by decide +kernel
theorem dX10_best_233 : decode cX10_best 233 = .ok (.iload_n 3, 1) := by decide +kernel
theorem dX10_best_234 : decode cX10_best 234 = .ok (.bipush 14, 2) := by decide +kernel
theorem dX10_best_236 : decode cX10_best 236 = .ok (.ishl, 1) := by decide +kernel
theorem dX10_best_237 : decode cX10_best 237 = .ok (.iload_n 2, 1) := by decide +kernel
theorem dX10_best_238 : decode cX10_best 238 = .ok (.iadd, 1) := by decide +kernel
theorem dX10_best_239 : decode cX10_best 239 = .ok (.iaload, 1) := by decide +kernel
theorem dX10_best_240 : decode cX10_best 240 = .ok (.istore 4, 2) := by decide +kernel
theorem dX10_best_242 : decode cX10_best 242 = .ok (.iconst (-1), 1) := by decide +kernel
theorem dX10_best_243 : decode cX10_best 243 = .ok (.istore 5, 2) := by decide +kernel
theorem dX10_best_245 : decode cX10_best 245 = .ok (.aload_n 0, 1) := by decide +kernel
theorem dX10_best_246 : decode cX10_best 246 = .ok (.getfield 165, 3) := by decide +kernel
theorem dX10_best_249 : decode cX10_best 249 = .ok (.iconst 1, 1) := by decide +kernel
theorem dX10_best_250 : decode cX10_best 250 = .ok (.isub, 1) := by decide +kernel
theorem dX10_best_251 : decode cX10_best 251 = .ok (.istore 6, 2) := by decide +kernel
theorem dX10_best_253 : decode cX10_best 253 = .ok (.iload 6, 2) := by decide +kernel
theorem dX10_best_255 : decode cX10_best 255 = .ok (.ifCond .lt 67, 3) := by decide +kernel
theorem dX10_best_258 : decode cX10_best 258 = .ok (.aload_n 0, 1) := by decide +kernel
theorem dX10_best_259 : decode cX10_best 259 = .ok (.getfield 60, 3) := by decide +kernel
theorem dX10_best_262 : decode cX10_best 262 = .ok (.bipush 14, 2) := by decide +kernel
theorem dX10_best_264 : decode cX10_best 264 = .ok (.iload_n 3, 1) := by decide +kernel
theorem dX10_best_265 : decode cX10_best 265 = .ok (.imul, 1) := by decide +kernel
theorem dX10_best_266 : decode cX10_best 266 = .ok (.iload 6, 2) := by decide +kernel
theorem dX10_best_268 : decode cX10_best 268 = .ok (.iadd, 1) := by decide +kernel
theorem dX10_best_269 : decode cX10_best 269 = .ok (.iaload, 1) := by decide +kernel
theorem dX10_best_270 : decode cX10_best 270 = .ok (.istore 7, 2) := by decide +kernel
theorem dX10_best_272 : decode cX10_best 272 = .ok (.iload_n 2, 1) := by decide +kernel
theorem dX10_best_273 : decode cX10_best 273 = .ok (.iload 6, 2) := by decide +kernel
theorem dX10_best_275 : decode cX10_best 275 = .ok (.ishr, 1) := by decide +kernel
