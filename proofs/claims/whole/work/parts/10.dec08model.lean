theorem dX10_sum_35 : decode cX10_sum 35 = .ok (.lload_n 2, 1) := by decide +kernel
theorem dX10_sum_36 : decode cX10_sum 36 = .ok (.iload_n 1, 1) := by decide +kernel
theorem dX10_sum_37 : decode cX10_sum 37 = .ok (.ifCond .ne 31, 3) := by decide +kernel
theorem dX10_sum_40 : decode cX10_sum 40 = .ok (.iload 5, 2) := by decide +kernel
theorem dX10_sum_42 : decode cX10_sum 42 = .ok (.ifCond .ne 14, 3) := by decide +kernel
theorem dX10_sum_45 : decode cX10_sum 45 = .ok (.aload_n 0, 1) := by decide +kernel
theorem dX10_sum_46 : decode cX10_sum 46 = .ok (.getfield 9, 3) := by decide +kernel
theorem dX10_sum_49 : decode cX10_sum 49 = .ok (.iload 4, 2) := by decide +kernel
theorem dX10_sum_51 : decode cX10_sum 51 = .ok (.iaload, 1) := by decide +kernel
theorem dX10_sum_52 : decode cX10_sum 52 = .ok (.i2l, 1) := by decide +kernel
theorem dX10_sum_53 : decode cX10_sum 53 = .ok (.goto 45, 3) := by decide +kernel
theorem dX10_sum_56 : decode cX10_sum 56 = .ok (.aload_n 0, 1) := by decide +kernel
theorem dX10_sum_57 : decode cX10_sum 57 = .ok (.getfield 9, 3) := by decide +kernel
theorem dX10_sum_60 : decode cX10_sum 60 = .ok (.iload 4, 2) := by decide +kernel
theorem dX10_sum_62 : decode cX10_sum 62 = .ok (.iaload, 1) := by decide +kernel
theorem dX10_sum_63 : decode cX10_sum 63 = .ok (.ineg, 1) := by decide +kernel
theorem dX10_sum_64 : decode cX10_sum 64 = .ok (.i2l, 1) := by decide +kernel
theorem dX10_sum_65 : decode cX10_sum 65 = .ok (.goto 33, 3) := by decide +kernel
theorem dX10_sum_68 : decode cX10_sum 68 = .ok (.iload_n 1, 1) := by decide +kernel
theorem dX10_sum_69 : decode cX10_sum 69 = .ok (.iconst 1, 1) := by decide +kernel
theorem dX10_sum_70 : decode cX10_sum 70 = .ok (.iload 5, 2) := by decide +kernel
theorem dX10_sum_72 : decode cX10_sum 72 = .ok (.iadd, 1) := by decide +kernel
theorem dX10_sum_73 : decode cX10_sum 73 = .ok (.if_icmp .ne 24, 3) := by decide +kernel
theorem dX10_sum_76 : decode cX10_sum 76 = .ok (.aload_n 0, 1) := by decide +kernel
theorem dX10_sum_77 : decode cX10_sum 77 = .ok (.getfield 25, 3) := by decide +kernel
theorem dX10_sum_80 : decode cX10_sum 80 = .ok (.iload 4, 2) := by decide +kernel
theorem dX10_sum_82 : decode cX10_sum 82 = .ok (.iaload, 1) := by decide +kernel
theorem dX10_sum_83 : decode cX10_sum 83 = .ok (.ifCond .ge 14, 3) := by decide +kernel
theorem dX10_sum_86 : decode cX10_sum 86 = .ok (.aload_n 0, 1) := by decide +kernel
theorem dX10_sum_87 : decode cX10_sum 87 = .ok (.getfield 9, 3) := by decide +kernel
theorem dX10_sum_90 : decode cX10_sum 90 = .ok (.iload 4, 2) := by decide +kernel
theorem dX10_sum_92 : decode cX10_sum 92 = .ok (.iaload, 1) := by decide +kernel
theorem dX10_sum_93 : decode cX10_sum 93 = .ok (.i2l, 1) := by decide +kernel
theorem dX10_sum_94 : decode cX10_sum 94 = .ok (.goto 4, 3) := by decide +kernel
theorem dX10_sum_97 : decode cX10_sum 97 = .ok (.lconst 0, 1) := by decide +kernel
theorem dX10_sum_98 : decode cX10_sum 98 = .ok (.ladd, 1) := by decide +kernel
theorem dX10_sum_99 : decode cX10_sum 99 = .ok (.lstore_n 2, 1) := by decide +kernel
theorem dX10_sum_100 : decode cX10_sum 100 = .ok (.iinc 4 1, 3) := by decide +kernel
theorem dX10_sum_103 : decode cX10_sum 103 = .ok (.goto (-98), 3) := by decide +kernel
theorem dX10_sum_106 : decode cX10_sum 106 = .ok (.iconst 0, 1) := by decide +kernel
theorem dX10_sum_107 : decode cX10_sum 107 = .ok (.istore 4, 2) := by decide +kernel
theorem dX10_sum_109 : decode cX10_sum 109 = .ok (.iload 4, 2) := by decide +kernel
theorem dX10_sum_111 : decode cX10_sum 111 = .ok (.aload_n 0, 1) := by decide +kernel
theorem dX10_sum_112 : decode cX10_sum 112 = .ok (.getfield 120, 3) := by decide +kernel
theorem dX10_sum_115 : decode cX10_sum 115 = .ok (.if_icmp .ge 37, 3) := by decide +kernel
theorem dX10_sum_118 : decode cX10_sum 118 = .ok (.iload_n 1, 1) := by decide +kernel
theorem dX10_sum_119 : decode cX10_sum 119 = .ok (.iconst 3, 1) := by decide +kernel
theorem dX10_sum_120 : decode cX10_sum 120 = .ok (.if_icmp .ne 32, 3) := by decide +kernel
theorem dX10_sum_123 : decode cX10_sum 123 = .ok (.lload_n 2, 1) := by decide +kernel
theorem dX10_sum_124 : decode cX10_sum 124 = .ok (.aload_n 0, 1) := by decide +kernel
theorem dX10_sum_125 : decode cX10_sum 125 = .ok (.getfield 47, 3) := by decide +kernel
theorem dX10_sum_128 : decode cX10_sum 128 = .ok (.iload 4, 2) := by decide +kernel
theorem dX10_sum_130 : decode cX10_sum 130 = .ok (.iaload, 1) := by decide +kernel
theorem dX10_sum_131 : decode cX10_sum 131 = .ok (.ifCond .ge 12, 3) := by decide +kernel
theorem dX10_sum_134 : decode cX10_sum 134 = .ok (.aload_n 0, 1) := by decide +kernel
theorem dX10_sum_135 : decode cX10_sum 135 = .ok (.iload 4, 2) := by decide +kernel
theorem dX10_sum_137 : decode cX10_sum 137 = .ok (.invokevirtual 213, 3) := by decide +kernel
theorem dX10_sum_140 : decode cX10_sum 140 = .ok (.goto 4, 3) := by decide +kernel
theorem dX10_sum_143 : decode cX10_sum 143 = .ok (.lconst 0, 1) := by decide +kernel
theorem dX10_sum_144 : decode cX10_sum 144 = .ok (.ladd, 1) := by decide +kernel
theorem dX10_sum_145 : decode cX10_sum 145 = .ok (.lstore_n 2, 1) := by decide +kernel
theorem dX10_sum_146 : decode cX10_sum 146 = .ok (.iinc 4 1, 3) := by decide +kernel
theorem dX10_sum_149 : decode cX10_sum 149 = .ok (.goto (-40), 3) := by decide +kernel
theorem dX10_sum_152 : decode cX10_sum 152 = .ok (.lload_n 2, 1) := by decide +kernel
theorem dX10_sum_153 : decode cX10_sum 153 = .ok (.lreturn, 1) := by decide +kernel
theorem dX10_wasThere_0 : decode cX10_wasThere 0 = .ok (.aload_n 0, 1) := by decide +kernel
theorem dX10_wasThere_1 : decode cX10_wasThere 1 = .ok (.getfield 44, 3) := by decide +kernel
theorem dX10_wasThere_4 : decode cX10_wasThere 4 = .ok (.iload_n 1, 1) := by decide +kernel
theorem dX10_wasThere_5 : decode cX10_wasThere 5 = .ok (.iaload, 1) := by decide +kernel
theorem dX10_wasThere_6 : decode cX10_wasThere 6 = .ok (.iload_n 2, 1) := by decide +kernel
theorem dX10_wasThere_7 : decode cX10_wasThere 7 = .ok (.if_icmp .gt 26, 3) := by decide +kernel
theorem dX10_wasThere_10 : decode cX10_wasThere 10 = .ok (.aload_n 0, 1) := by decide +kernel
theorem dX10_wasThere_11 : decode cX10_wasThere 11 = .ok (.getfield 47, 3) := by decide +kernel
theorem dX10_wasThere_14 : decode cX10_wasThere 14 = .ok (.iload_n 1, 1) := by decide +kernel
theorem dX10_wasThere_15 : decode cX10_wasThere 15 = .ok (.iaload, 1) := by decide +kernel
theorem dX10_wasThere_16 : decode cX10_wasThere 16 = .ok (.ifCond .lt 13, 3) := by decide +kernel
theorem dX10_wasThere_19 : decode cX10_wasThere 19 = .ok (.aload_n 0, 1) := by decide +kernel
theorem dX10_wasThere_20 : decode cX10_wasThere 20 = .ok (.getfield 47, 3) := by decide +kernel
theorem dX10_wasThere_23 : decode cX10_wasThere 23 = .ok (.iload_n 1, 1) := by decide +kernel
theorem dX10_wasThere_24 : decode cX10_wasThere 24 = .ok (.iaload, 1) := by decide +kernel
theorem dX10_wasThere_25 : decode cX10_wasThere 25 = .ok (.iload_n 2, 1) := by decide +kernel
theorem dX10_wasThere_26 : decode cX10_wasThere 26 = .ok (.if_icmp .le 7, 3) := by decide +kernel
theorem dX10_wasThere_29 : decode cX10_wasThere 29 = .ok (.iconst 1, 1) := by decide +kernel
theorem dX10_wasThere_30 : decode cX10_wasThere 30 = .ok (.goto 4, 3) := by decide +kernel
theorem dX10_wasThere_33 : decode cX10_wasThere 33 = .ok (.iconst 0, 1) := by decide +kernel
theorem dX10_wasThere_34 : decode cX10_wasThere 34 = .ok (.ireturn, 1) := by decide +kernel
theorem dX10_as_0 : decode cX10_as 0 = .ok (.iload_n 1, 1) := by decide +kernel
theorem dX10_as_1 : decode cX10_as 1 = .ok (.iconst 0, 1) := by decide +kernel
theorem dX10_as_2 : decode cX10_as 2 = .ok (.aload_n 0, 1) := by decide +kernel
theorem dX10_as_3 : decode cX10_as 3 = .ok (.getfield 136, 3) := by decide +kernel
theorem dX10_as_6 : decode cX10_as 6 = .ok (.invokestatic 116, 3) := by decide +kernel
theorem dX10_as_9 : decode cX10_as 9 = .ok (.ifCond .eq 12, 3) := by decide +kernel
theorem dX10_as_12 : decode cX10_as 12 = .ok (.iload_n 2, 1) := by decide +kernel
theorem dX10_as_13 : decode cX10_as 13 = .ok (.iconst 0, 1) := by decide +kernel
theorem dX10_as_14 : decode cX10_as 14 = .ok (.iconst 2, 1) := by decide +kernel
theorem dX10_as_15 : decode cX10_as 15 = .ok (.invokestatic 116, 3) := by decide +kernel
theorem dX10_as_18 : decode cX10_as 18 = .ok (.ifCond .ne 7, 3) := by decide +kernel
theorem dX10_as_21 : decode cX10_as 21 = .ok (.ldc2_w 217, 3) := by decide +kernel
theorem dX10_as_24 : decode cX10_as 24 = .ok (.lreturn, 1) := by decide +kernel
theorem dX10_as_25 : decode cX10_as 25 = .ok (.lconst 0, 1) := by decide +kernel
theorem dX10_as_26 : decode cX10_as 26 = .ok (.lstore_n 3, 1) := by decide +kernel
theorem dX10_as_27 : decode cX10_as 27 = .ok (.iload_n 2, 1) := by decide +kernel
theorem dX10_as_28 : decode cX10_as 28 = .ok (.iconst 2, 1) := by decide +kernel
theorem dX10_as_29 : decode cX10_as 29 = .ok (.if_icmp .ne 41, 3) := by decide +kernel
theorem dX10_as_32 : decode cX10_as 32 = .ok (.iconst 0, 1) := by decide +kernel
theorem dX10_as_33 : decode cX10_as 33 = .ok (.istore 5, 2) := by decide +kernel
theorem dX10_as_35 : decode cX10_as 35 = .ok (.iload 5, 2) := by decide +kernel
theorem dX10_as_37 : decode cX10_as 37 = .ok (.aload_n 0, 1) := by decide +kernel
theorem dX10_as_38 : decode cX10_as 38 = .ok (.getfield 120, 3) := by decide +kernel
theorem dX10_as_41 : decode cX10_as 41 = .ok (.if_icmp .ge 27, 3) := by decide +kernel
theorem dX10_as_44 : decode cX10_as 44 = .ok (.lload_n 3, 1) := by decide +kernel
theorem dX10_as_45 : decode cX10_as 45 = .ok (.aload_n 0, 1) := by decide +kernel
theorem dX10_as_46 : decode cX10_as 46 = .ok (.iload 5, 2) := by decide +kernel
theorem dX10_as_48 : decode cX10_as 48 = .ok (.iload_n 1, 1) := by decide +kernel
theorem dX10_as_49 : decode cX10_as 49 = .ok (.invokevirtual 219, 3) := by decide +kernel
theorem dX10_as_52 : decode cX10_as 52 = .ok (.ifCond .eq 7, 3) := by decide +kernel
theorem dX10_as_55 : decode cX10_as 55 = .ok (.lconst 1, 1) := by decide +kernel
theorem dX10_as_56 : decode cX10_as 56 = .ok (.goto 4, 3) := by decide +kernel
theorem dX10_as_59 : decode cX10_as 59 = .ok (.lconst 0, 1) := by decide +kernel
theorem dX10_as_60 : decode cX10_as 60 = .ok (.ladd, 1) := by decide +kernel
theorem dX10_as_61 : decode cX10_as 61 = .ok (.lstore_n 3, 1) := by decide +kernel
theorem dX10_as_62 : decode cX10_as 62 = .ok (.iinc 5 1, 3) := by decide +kernel
theorem dX10_as_65 : decode cX10_as 65 = .ok (.goto (-30), 3) := by decide +kernel
theorem dX10_as_68 : decode cX10_as 68 = .ok (.lload_n 3, 1) := by decide +kernel
theorem dX10_as_69 : decode cX10_as 69 = .ok (.lreturn, 1) := by decide +kernel
theorem dX10_as_70 : decode cX10_as 70 = .ok (.iconst 0, 1) := by decide +kernel
theorem dX10_as_71 : decode cX10_as 71 = .ok (.istore 5, 2) := by decide +kernel
theorem dX10_as_73 : decode cX10_as 73 = .ok (.iload 5, 2) := by decide +kernel
theorem dX10_as_75 : decode cX10_as 75 = .ok (.sipush 160, 3) := by decide +kernel
theorem dX10_as_78 : decode cX10_as 78 = .ok (.if_icmp .ge 176, 3) := by decide +kernel
theorem dX10_as_81 : decode cX10_as 81 = .ok (.iload 5, 2) := by decide +kernel
theorem dX10_as_83 : decode cX10_as 83 = .ok (.bipush 80, 2) := by decide +kernel
theorem dX10_as_85 : decode cX10_as 85 = .ok (.irem, 1) := by decide +kernel
theorem dX10_as_86 : decode cX10_as 86 = .ok (.aload_n 0, 1) := by decide +kernel
theorem dX10_as_87 : decode cX10_as 87 = .ok (.getfield 28, 3) := by decide +kernel
theorem dX10_as_90 : decode cX10_as 90 = .ok (.iload 5, 2) := by decide +kernel
theorem dX10_as_92 : decode cX10_as 92 = .ok (.bipush 80, 2) := by decide +kernel
theorem dX10_as_94 : decode cX10_as 94 = .ok (.idiv, 1) := by decide +kernel
theorem dX10_as_95 : decode cX10_as 95 = .ok (.iaload, 1) := by decide +kernel
theorem dX10_as_96 : decode cX10_as 96 = .ok (.if_icmp .ge 18, 3) := by decide +kernel
theorem dX10_as_99 : decode cX10_as 99 = .ok (.aload_n 0, 1) := by decide +kernel
theorem dX10_as_100 : decode cX10_as 100 = .ok (.getfield 22, 3) := by decide +kernel
theorem dX10_as_103 : decode cX10_as 103 = .ok (.iload 5, 2) := by decide +kernel
theorem dX10_as_105 : decode cX10_as 105 = .ok (.iaload, 1) := by decide +kernel
theorem dX10_as_106 : decode cX10_as 106 = .ok (.iload_n 1, 1) := by decide +kernel
theorem dX10_as_107 : decode cX10_as 107 = .ok (.if_icmp .gt 7, 3) := by decide +kernel
theorem dX10_as_110 : decode cX10_as 110 = .ok (.iconst 1, 1) := by decide +kernel
theorem dX10_as_111 : decode cX10_as 111 = .ok (.goto 4, 3) := by decide +kernel
theorem dX10_as_114 : decode cX10_as 114 = .ok (.iconst 0, 1) := by decide +kernel
theorem dX10_as_115 : decode cX10_as 115 = .ok (.istore 6, 2) := by decide +kernel
theorem dX10_as_117 : decode cX10_as 117 = .ok (.iconst 0, 1) := by decide +kernel
theorem dX10_as_118 : decode cX10_as 118 = .ok (.istore 7, 2) := by decide +kernel
theorem dX10_as_120 : decode cX10_as 120 = .ok (.iload 7, 2) := by decide +kernel
theorem dX10_as_122 : decode cX10_as 122 = .ok (.aload_n 0, 1) := by decide +kernel
theorem dX10_as_123 : decode cX10_as 123 = .ok (.getfield 120, 3) := by decide +kernel
theorem dX10_as_126 : decode cX10_as 126 = .ok (.if_icmp .ge 75, 3) := by decide +kernel
theorem dX10_as_129 : decode cX10_as 129 = .ok (.iload 6, 2) := by decide +kernel
theorem dX10_as_131 : decode cX10_as 131 = .ok (.ifCond .eq 70, 3) := by decide +kernel
theorem dX10_as_134 : decode cX10_as 134 = .ok (.iconst 0, 1) := by decide +kernel
theorem dX10_as_135 : decode cX10_as 135 = .ok (.istore 8, 2) := by decide +kernel
theorem dX10_as_137 : decode cX10_as 137 = .ok (.iload 8, 2) := by decide +kernel
theorem dX10_as_139 : decode cX10_as 139 = .ok (.aload_n 0, 1) := by decide +kernel
theorem dX10_as_140 : decode cX10_as 140 = .ok (.getfield 41, 3) := by decide +kernel
theorem dX10_as_143 : decode cX10_as 143 = .ok (.iload 7, 2) := by decide +kernel
theorem dX10_as_145 : decode cX10_as 145 = .ok (.iaload, 1) := by decide +kernel
theorem dX10_as_146 : decode cX10_as 146 = .ok (.if_icmp .ge 49, 3) := by decide +kernel
theorem dX10_as_149 : decode cX10_as 149 = .ok (.iload 6, 2) := by decide +kernel
theorem dX10_as_151 : decode cX10_as 151 = .ok (.ifCond .eq 35, 3) := by decide +kernel
theorem dX10_as_154 : decode cX10_as 154 = .ok (.aload_n 0, 1) := by decide +kernel
theorem dX10_as_155 : decode cX10_as 155 = .ok (.getfield 38, 3) := by decide +kernel
theorem dX10_as_158 : decode cX10_as 158 = .ok (.bipush 8, 2) := by decide +kernel
theorem dX10_as_160 : decode cX10_as 160 = .ok (.iload 7, 2) := by decide +kernel
theorem dX10_as_162 : decode cX10_as 162 = .ok (.imul, 1) := by decide +kernel
theorem dX10_as_163 : decode cX10_as 163 = .ok (.iload 8, 2) := by decide +kernel
theorem dX10_as_165 : decode cX10_as 165 = .ok (.iadd, 1) := by decide +kernel
theorem dX10_as_166 : decode cX10_as 166 = .ok (.iaload, 1) := by decide +kernel
theorem dX10_as_167 : decode cX10_as 167 = .ok (.iload 5, 2) := by decide +kernel
theorem dX10_as_169 : decode cX10_as 169 = .ok (.if_icmp .ne 13, 3) := by decide +kernel
theorem dX10_as_172 : decode cX10_as 172 = .ok (.aload_n 0, 1) := by decide +kernel
theorem dX10_as_173 : decode cX10_as 173 = .ok (.iload 7, 2) := by decide +kernel
theorem dX10_as_175 : decode cX10_as 175 = .ok (.iload_n 1, 1) := by decide +kernel
theorem dX10_as_176 : decode cX10_as 176 = .ok (.invokevirtual 219, 3) := by decide +kernel
theorem dX10_as_179 : decode cX10_as 179 = .ok (.ifCond .ne 7, 3) := by decide +kernel
theorem dX10_as_182 : decode cX10_as 182 = .ok (.iconst 1, 1) := by decide +kernel
theorem dX10_as_183 : decode cX10_as 183 = .ok (.goto 4, 3) := by decide +kernel
theorem dX10_as_186 : decode cX10_as 186 = .ok (.iconst 0, 1) := by decide +kernel
theorem dX10_as_187 : decode cX10_as 187 = .ok (.istore 6, 2) := by decide +kernel
theorem dX10_as_189 : decode cX10_as 189 = .ok (.iinc 8 1, 3) := by decide +kernel
theorem dX10_as_192 : decode cX10_as 192 = .ok (.goto (-55), 3) := by decide +kernel
theorem dX10_as_195 : decode cX10_as 195 = .ok (.iinc 7 1, 3) := by decide +kernel
theorem dX10_as_198 : decode cX10_as 198 = .ok (.goto (-78), 3) := by decide +kernel
theorem dX10_as_201 : decode cX10_as 201 = .ok (.lload_n 3, 1) := by decide +kernel
theorem dX10_as_202 : decode cX10_as 202 = .ok (.iload 6, 2) := by decide +kernel
theorem dX10_as_204 : decode cX10_as 204 = .ok (.ifCond .ne 7, 3) := by decide +kernel
theorem dX10_as_207 : decode cX10_as 207 = .ok (.lconst 0, 1) := by decide +kernel
theorem dX10_as_208 : decode cX10_as 208 = .ok (.goto 38, 3) := by decide +kernel
theorem dX10_as_211 : decode cX10_as 211 = .ok (.iload_n 2, 1) := by decide +kernel
theorem dX10_as_212 : decode cX10_as 212 = .ok (.ifCond .ne 7, 3) := by decide +kernel
theorem dX10_as_215 : decode cX10_as 215 = .ok (.lconst 1, 1) := by decide +kernel
theorem dX10_as_216 : decode cX10_as 216 = .ok (.goto 30, 3) := by decide +kernel
theorem dX10_as_219 : decode cX10_as 219 = .ok (.iload 5, 2) := by decide +kernel
theorem dX10_as_221 : decode cX10_as 221 = .ok (.bipush 80, 2) := by decide +kernel
theorem dX10_as_223 : decode cX10_as 223 = .ok (.if_icmp .ge 14, 3) := by decide +kernel
theorem dX10_as_226 : decode cX10_as 226 = .ok (.aload_n 0, 1) := by decide +kernel
theorem dX10_as_227 : decode cX10_as 227 = .ok (.getfield 9, 3) := by decide +kernel
theorem dX10_as_230 : decode cX10_as 230 = .ok (.iload 5, 2) := by decide +kernel
theorem dX10_as_232 : decode cX10_as 232 = .ok (.iaload, 1) := by decide +kernel
theorem dX10_as_233 : decode cX10_as 233 = .ok (.i2l, 1) := by decide +kernel
theorem dX10_as_234 : decode cX10_as 234 = .ok (.goto 12, 3) := by decide +kernel
theorem dX10_as_237 : decode cX10_as 237 = .ok (.aload_n 0, 1) := by decide +kernel
theorem dX10_as_238 : decode cX10_as 238 = .ok (.getfield 9, 3) := by decide +kernel
theorem dX10_as_241 : decode cX10_as 241 = .ok (.iload 5, 2) := by decide +kernel
theorem dX10_as_243 : decode cX10_as 243 = .ok (.iaload, 1) := by decide +kernel
theorem dX10_as_244 : decode cX10_as 244 = .ok (.ineg, 1) := by decide +kernel
theorem dX10_as_245 : decode cX10_as 245 = .ok (.i2l, 1) := by decide +kernel
theorem dX10_as_246 : decode cX10_as 246 = .ok (.ladd, 1) := by decide +kernel
theorem dX10_as_247 : decode cX10_as 247 = .ok (.lstore_n 3, 1) := by decide +kernel
theorem dX10_as_248 : decode cX10_as 248 = .ok (.iinc 5 1, 3) := by decide +kernel
theorem dX10_as_251 : decode cX10_as 251 = .ok (.goto (-178), 3) := by decide +kernel
theorem dX10_as_254 : decode cX10_as 254 = .ok (.lload_n 3, 1) := by decide +kernel
theorem dX10_as_255 : decode cX10_as 255 = .ok (.lreturn, 1) := by decide +kernel
theorem dX10_addItem_0 : decode cX10_addItem 0 = .ok (.iload_n 1, 1) := by decide +kernel
theorem dX10_addItem_1 : decode cX10_addItem 1 = .ok (.bipush 18, 2) := by decide +kernel
theorem dX10_addItem_3 : decode cX10_addItem 3 = .ok (.if_icmp .ge 25, 3) := by decide +kernel
theorem dX10_addItem_6 : decode cX10_addItem 6 = .ok (.aload_n 0, 1) := by decide +kernel
theorem dX10_addItem_7 : decode cX10_addItem 7 = .ok (.getfield 91, 3) := by decide +kernel
theorem dX10_addItem_10 : decode cX10_addItem 10 = .ok (.iload_n 1, 1) := by decide +kernel
theorem dX10_addItem_11 : decode cX10_addItem 11 = .ok (.iload_n 2, 1) := by decide +kernel
theorem dX10_addItem_12 : decode cX10_addItem 12 = .ok (.iastore, 1) := by decide +kernel
theorem dX10_addItem_13 : decode cX10_addItem 13 = .ok (.aload_n 0, 1) := by decide +kernel
theorem dX10_addItem_14 : decode cX10_addItem 14 = .ok (.getfield 94, 3) := by decide +kernel
theorem dX10_addItem_17 : decode cX10_addItem 17 = .ok (.iload_n 1, 1) := by decide +kernel
theorem dX10_addItem_18 : decode cX10_addItem 18 = .ok (.iload_n 3, 1) := by decide +kernel
theorem dX10_addItem_19 : decode cX10_addItem 19 = .ok (.iastore, 1) := by decide +kernel
theorem dX10_addItem_20 : decode cX10_addItem 20 = .ok (.aload_n 0, 1) := by decide +kernel
theorem dX10_addItem_21 : decode cX10_addItem 21 = .ok (.getfield 97, 3) := by decide +kernel
theorem dX10_addItem_24 : decode cX10_addItem 24 = .ok (.iload_n 1, 1) := by decide +kernel
theorem dX10_addItem_25 : decode cX10_addItem 25 = .ok (.lload 4, 2) := by decide +kernel
theorem dX10_addItem_27 : decode cX10_addItem 27 = .ok (.lastore, 1) := by decide +kernel
theorem dX10_addItem_28 : decode cX10_addItem 28 = .ok (.iload_n 1, 1) := by decide +kernel
theorem dX10_addItem_29 : decode cX10_addItem 29 = .ok (.iconst 1, 1) := by decide +kernel
theorem dX10_addItem_30 : decode cX10_addItem 30 = .ok (.iadd, 1) := by decide +kernel
theorem dX10_addItem_31 : decode cX10_addItem 31 = .ok (.ireturn, 1) := by decide +kernel
theorem dX10_find_0 : decode cX10_find 0 = .ok (.iload_n 3, 1) := by decide +kernel
theorem dX10_find_1 : decode cX10_find 1 = .ok (.ifCond .ne 16, 3) := by decide +kernel
theorem dX10_find_4 : decode cX10_find 4 = .ok (.lload 4, 2) := by decide +kernel
theorem dX10_find_6 : decode cX10_find 6 = .ok (.lconst 0, 1) := by decide +kernel
theorem dX10_find_7 : decode cX10_find 7 = .ok (.lcmp, 1) := by decide +kernel
theorem dX10_find_8 : decode cX10_find 8 = .ok (.ifCond .ne 7, 3) := by decide +kernel
theorem dX10_find_11 : decode cX10_find 11 = .ok (.iconst 0, 1) := by decide +kernel
theorem dX10_find_12 : decode cX10_find 12 = .ok (.goto 4, 3) := by decide +kernel
theorem dX10_find_15 : decode cX10_find 15 = .ok (.iconst (-1), 1) := by decide +kernel
theorem dX10_find_16 : decode cX10_find 16 = .ok (.ireturn, 1) := by decide +kernel
theorem dX10_find_17 : decode cX10_find 17 = .ok (.iload_n 2, 1) := by decide +kernel
theorem dX10_find_18 : decode cX10_find 18 = .ok (.istore 6, 2) := by decide +kernel
theorem dX10_find_20 : decode cX10_find 20 = .ok (.iload 6, 2) := by decide +kernel
theorem dX10_find_22 : decode cX10_find 22 = .ok (.iload_n 3, 1) := by decide +kernel
theorem dX10_find_23 : decode cX10_find 23 = .ok (.iadd, 1) := by decide +kernel
theorem dX10_find_24 : decode cX10_find 24 = .ok (.iload_n 1, 1) := by decide +kernel
theorem dX10_find_25 : decode cX10_find 25 = .ok (.if_icmp .gt 46, 3) := by decide +kernel
theorem dX10_find_28 : decode cX10_find 28 = .ok (.aload_n 0, 1) := by decide +kernel
theorem dX10_find_29 : decode cX10_find 29 = .ok (.iload_n 1, 1) := by decide +kernel
theorem dX10_find_30 : decode cX10_find 30 = .ok (.iload 6, 2) := by decide +kernel
theorem dX10_find_32 : decode cX10_find 32 = .ok (.iconst 1, 1) := by decide +kernel
theorem dX10_find_33 : decode cX10_find 33 = .ok (.iadd, 1) := by decide +kernel
theorem dX10_find_34 : decode cX10_find 34 = .ok (.iload_n 3, 1) := by decide +kernel
theorem dX10_find_35 : decode cX10_find 35 = .ok (.iconst 1, 1) := by decide +kernel
theorem dX10_find_36 : decode cX10_find 36 = .ok (.isub, 1) := by decide +kernel
theorem dX10_find_37 : decode cX10_find 37 = .ok (.lload 4, 2) := by decide +kernel
theorem dX10_find_39 : decode cX10_find 39 = .ok (.aload_n 0, 1) := by decide +kernel
theorem dX10_find_40 : decode cX10_find 40 = .ok (.getfield 97, 3) := by decide +kernel
theorem dX10_find_43 : decode cX10_find 43 = .ok (.iload 6, 2) := by decide +kernel
theorem dX10_find_45 : decode cX10_find 45 = .ok (.laload, 1) := by decide +kernel
theorem dX10_find_46 : decode cX10_find 46 = .ok (.lsub, 1) := by decide +kernel
theorem dX10_find_47 : decode cX10_find 47 = .ok (.invokevirtual 222, 3) := by decide +kernel
theorem dX10_find_50 : decode cX10_find 50 = .ok (.istore 7, 2) := by decide +kernel
theorem dX10_find_52 : decode cX10_find 52 = .ok (.iload 7, 2) := by decide +kernel
theorem dX10_find_54 : decode cX10_find 54 = .ok (.ifCond .lt 11, 3) := by decide +kernel
theorem dX10_find_57 : decode cX10_find 57 = .ok (.iload 7, 2) := by decide +kernel
theorem dX10_find_59 : decode cX10_find 59 = .ok (.iconst 1, 1) := by decide +kernel
theorem dX10_find_60 : decode cX10_find 60 = .ok (.iload 6, 2) := by decide +kernel
theorem dX10_find_62 : decode cX10_find 62 = .ok (.ishl, 1) := by decide +kernel
theorem dX10_find_63 : decode cX10_find 63 = .ok (.ior, 1) := by decide +kernel
theorem dX10_find_64 : decode cX10_find 64 = .ok (.ireturn, 1) := by decide +kernel
theorem dX10_find_65 : decode cX10_find 65 = .ok (.iinc 6 1, 3) := by decide +kernel
theorem dX10_find_68 : decode cX10_find 68 = .ok (.goto (-48), 3) := by decide +kernel
theorem dX10_find_71 : decode cX10_find 71 = .ok (.iconst (-1), 1) := by decide +kernel
theorem dX10_find_72 : decode cX10_find 72 = .ok (.ireturn, 1) := by decide +kernel
theorem dX10_explain_0 : decode cX10_explain 0 = .ok (.iconst 0, 1) := by decide +kernel
theorem dX10_explain_1 : decode cX10_explain 1 = .ok (.istore_n 1, 1) := by decide +kernel
theorem dX10_explain_2 : decode cX10_explain 2 = .ok (.iconst 0, 1) := by decide +kernel
theorem dX10_explain_3 : decode cX10_explain 3 = .ok (.istore_n 2, 1) := by decide +kernel
theorem dX10_explain_4 : decode cX10_explain 4 = .ok (.iload_n 2, 1) := by decide +kernel
theorem dX10_explain_5 : decode cX10_explain 5 = .ok (.sipush 160, 3) := by decide +kernel
theorem dX10_explain_8 : decode cX10_explain 8 = .ok (.if_icmp .ge 72, 3) := by decide +kernel
theorem dX10_explain_11 : decode cX10_explain 11 = .ok (.iload_n 2, 1) := by decide +kernel
theorem dX10_explain_12 : decode cX10_explain 12 = .ok (.bipush 80, 2) := by decide +kernel
theorem dX10_explain_14 : decode cX10_explain 14 = .ok (.irem, 1) := by decide +kernel
theorem dX10_explain_15 : decode cX10_explain 15 = .ok (.aload_n 0, 1) := by decide +kernel
theorem dX10_explain_16 : decode cX10_explain 16 = .ok (.getfield 28, 3) := by decide +kernel
theorem dX10_explain_19 : decode cX10_explain 19 = .ok (.iload_n 2, 1) := by decide +kernel
theorem dX10_explain_20 : decode cX10_explain 20 = .ok (.bipush 80, 2) := by decide +kernel
theorem dX10_explain_22 : decode cX10_explain 22 = .ok (.idiv, 1) := by decide +kernel
theorem dX10_explain_23 : decode cX10_explain 23 = .ok (.iaload, 1) := by decide +kernel
theorem dX10_explain_24 : decode cX10_explain 24 = .ok (.if_icmp .ge 50, 3) := by decide +kernel
theorem dX10_explain_27 : decode cX10_explain 27 = .ok (.aload_n 0, 1) := by decide +kernel
theorem dX10_explain_28 : decode cX10_explain 28 = .ok (.getfield 25, 3) := by decide +kernel
theorem dX10_explain_31 : decode cX10_explain 31 = .ok (.iload_n 2, 1) := by decide +kernel
theorem dX10_explain_32 : decode cX10_explain 32 = .ok (.iaload, 1) := by decide +kernel
theorem dX10_explain_33 : decode cX10_explain 33 = .ok (.ifCond .ge 41, 3) := by decide +kernel
theorem dX10_explain_36 : decode cX10_explain 36 = .ok (.aload_n 0, 1) := by decide +kernel
theorem dX10_explain_37 : decode cX10_explain 37 = .ok (.iload_n 1, 1) := by decide +kernel
theorem dX10_explain_38 : decode cX10_explain 38 = .ok (.iload_n 2, 1) := by decide +kernel
theorem dX10_explain_39 : decode cX10_explain 39 = .ok (.bipush 80, 2) := by decide +kernel
theorem dX10_explain_41 : decode cX10_explain 41 = .ok (.idiv, 1) := by decide +kernel
theorem dX10_explain_42 : decode cX10_explain 42 = .ok (.iload_n 2, 1) := by decide +kernel
theorem dX10_explain_43 : decode cX10_explain 43 = .ok (.bipush 80, 2) := by decide +kernel
theorem dX10_explain_45 : decode cX10_explain 45 = .ok (.irem, 1) := by decide +kernel
theorem dX10_explain_46 : decode cX10_explain 46 = .ok (.iload_n 2, 1) := by decide +kernel
theorem dX10_explain_47 : decode cX10_explain 47 = .ok (.bipush 80, 2) := by decide +kernel
theorem dX10_explain_49 : decode cX10_explain 49 = .ok (.if_icmp .ge 13, 3) := by decide +kernel
theorem dX10_explain_52 : decode cX10_explain 52 = .ok (.aload_n 0, 1) := by decide +kernel
theorem dX10_explain_53 : decode cX10_explain 53 = .ok (.getfield 9, 3) := by decide +kernel
theorem dX10_explain_56 : decode cX10_explain 56 = .ok (.iload_n 2, 1) := by decide +kernel
theorem dX10_explain_57 : decode cX10_explain 57 = .ok (.iaload, 1) := by decide +kernel
theorem dX10_explain_58 : decode cX10_explain 58 = .ok (.i2l, 1) := by decide +kernel
theorem dX10_explain_59 : decode cX10_explain 59 = .ok (.goto 11, 3) := by decide +kernel
theorem dX10_explain_62 : decode cX10_explain 62 = .ok (.aload_n 0, 1) := by decide +kernel
theorem dX10_explain_63 : decode cX10_explain 63 = .ok (.getfield 9, 3) := by decide +kernel
theorem dX10_explain_66 : decode cX10_explain 66 = .ok (.iload_n 2, 1) := by decide +kernel
theorem dX10_explain_67 : decode cX10_explain 67 = .ok (.iaload, 1) := by decide +kernel
theorem dX10_explain_68 : decode cX10_explain 68 = .ok (.ineg, 1) := by decide +kernel
theorem dX10_explain_69 : decode cX10_explain 69 = .ok (.i2l, 1) := by decide +kernel
theorem dX10_explain_70 : decode cX10_explain 70 = .ok (.invokevirtual 226, 3) := by decide +kernel
theorem dX10_explain_73 : decode cX10_explain 73 = .ok (.istore_n 1, 1) := by decide +kernel
theorem dX10_explain_74 : decode cX10_explain 74 = .ok (.iinc 2 1, 3) := by decide +kernel
theorem dX10_explain_77 : decode cX10_explain 77 = .ok (.goto (-73), 3) := by decide +kernel
theorem dX10_explain_80 : decode cX10_explain 80 = .ok (.iconst 0, 1) := by decide +kernel
theorem dX10_explain_81 : decode cX10_explain 81 = .ok (.istore_n 2, 1) := by decide +kernel
theorem dX10_explain_82 : decode cX10_explain 82 = .ok (.iload_n 2, 1) := by decide +kernel
theorem dX10_explain_83 : decode cX10_explain 83 = .ok (.aload_n 0, 1) := by decide +kernel
theorem dX10_explain_84 : decode cX10_explain 84 = .ok (.getfield 120, 3) := by decide +kernel
theorem dX10_explain_87 : decode cX10_explain 87 = .ok (.if_icmp .ge 41, 3) := by decide +kernel
theorem dX10_explain_90 : decode cX10_explain 90 = .ok (.aload_n 0, 1) := by decide +kernel
theorem dX10_explain_91 : decode cX10_explain 91 = .ok (.getfield 47, 3) := by decide +kernel
theorem dX10_explain_94 : decode cX10_explain 94 = .ok (.iload_n 2, 1) := by decide +kernel
theorem dX10_explain_95 : decode cX10_explain 95 = .ok (.iaload, 1) := by decide +kernel
theorem dX10_explain_96 : decode cX10_explain 96 = .ok (.ifCond .ge 26, 3) := by decide +kernel
theorem dX10_explain_99 : decode cX10_explain 99 = .ok (.aload_n 0, 1) := by decide +kernel
theorem dX10_explain_100 : decode cX10_explain 100 = .ok (.iload_n 2, 1) := by decide +kernel
theorem dX10_explain_101 : decode cX10_explain 101 = .ok (.invokevirtual 213, 3) := by decide +kernel
theorem dX10_explain_104 : decode cX10_explain 104 = .ok (.lconst 0, 1) := by decide +kernel
theorem dX10_explain_105 : decode cX10_explain 105 = .ok (.lcmp, 1) := by decide +kernel
theorem dX10_explain_106 : decode cX10_explain 106 = .ok (.ifCond .eq 16, 3) := by decide +kernel
theorem dX10_explain_109 : decode cX10_explain 109 = .ok (.aload_n 0, 1) := by decide +kernel
theorem dX10_explain_110 : decode cX10_explain 110 = .ok (.iload_n 1, 1) := by decide +kernel
theorem dX10_explain_111 : decode cX10_explain 111 = .ok (.iconst 2, 1) := by decide +kernel
theorem dX10_explain_112 : decode cX10_explain 112 = .ok (.iload_n 2, 1) := by decide +kernel
theorem dX10_explain_113 : decode cX10_explain 113 = .ok (.aload_n 0, 1) := by decide +kernel
theorem dX10_explain_114 : decode cX10_explain 114 = .ok (.iload_n 2, 1) := by decide +kernel
theorem dX10_explain_115 : decode cX10_explain 115 = .ok (.invokevirtual 213, 3) := by decide +kernel
theorem dX10_explain_118 : decode cX10_explain 118 = .ok (.invokevirtual 226, 3) := by decide +kernel
theorem dX10_explain_121 : decode cX10_explain 121 = .ok (.istore_n 1, 1) := by decide +kernel
theorem dX10_explain_122 : decode cX10_explain 122 = .ok (.iinc 2 1, 3) := by decide +kernel
theorem dX10_explain_125 : decode cX10_explain 125 = .ok (.goto (-43), 3) := by decide +kernel
theorem dX10_explain_128 : decode cX10_explain 128 = .ok (.iload_n 1, 1) := by decide +kernel
theorem dX10_explain_129 : decode cX10_explain 129 = .ok (.bipush 18, 2) := by decide +kernel
theorem dX10_explain_131 : decode cX10_explain 131 = .ok (.if_icmp .le 6, 3) := by decide +kernel
theorem dX10_explain_134 : decode cX10_explain 134 = .ok (.bipush (-4), 2) := by decide +kernel
theorem dX10_explain_136 : decode cX10_explain 136 = .ok (.ireturn, 1) := by decide +kernel
theorem dX10_explain_137 : decode cX10_explain 137 = .ok (.iconst 0, 1) := by decide +kernel
theorem dX10_explain_138 : decode cX10_explain 138 = .ok (.istore_n 2, 1) := by decide +kernel
theorem dX10_explain_139 : decode cX10_explain 139 = .ok (.iload_n 2, 1) := by decide +kernel
theorem dX10_explain_140 : decode cX10_explain 140 = .ok (.iload_n 1, 1) := by decide +kernel
theorem dX10_explain_141 : decode cX10_explain 141 = .ok (.if_icmp .gt 100, 3) := by decide +kernel
theorem dX10_explain_144 : decode cX10_explain 144 = .ok (.aload_n 0, 1) := by decide +kernel
theorem dX10_explain_145 : decode cX10_explain 145 = .ok (.iload_n 1, 1) := by decide +kernel
theorem dX10_explain_146 : decode cX10_explain 146 = .ok (.iconst 0, 1) := by decide +kernel
theorem dX10_explain_147 : decode cX10_explain 147 = .ok (.iload_n 2, 1) := by decide +kernel
theorem dX10_explain_148 : decode cX10_explain 148 = .ok (.aload_n 0, 1) := by decide +kernel
theorem dX10_explain_149 : decode cX10_explain 149 = .ok (.iconst 0, 1) := by decide +kernel
theorem dX10_explain_150 : decode cX10_explain 150 = .ok (.invokevirtual 229, 3) := by decide +kernel
theorem dX10_explain_153 : decode cX10_explain 153 = .ok (.invokevirtual 222, 3) := by decide +kernel
theorem dX10_explain_156 : decode cX10_explain 156 = .ok (.istore_n 3, 1) := by decide +kernel
theorem dX10_explain_157 : decode cX10_explain 157 = .ok (.iload_n 3, 1) := by decide +kernel
theorem dX10_explain_158 : decode cX10_explain 158 = .ok (.ifCond .lt 77, 3) := by decide +kernel
theorem dX10_explain_161 : decode cX10_explain 161 = .ok (.aload_n 0, 1) := by decide +kernel
theorem dX10_explain_162 : decode cX10_explain 162 = .ok (.iconst 0, 1) := by decide +kernel
theorem dX10_explain_163 : decode cX10_explain 163 = .ok (.putfield 232, 3) := by decide +kernel
theorem dX10_explain_166 : decode cX10_explain 166 = .ok (.iconst 0, 1) := by decide +kernel
theorem dX10_explain_167 : decode cX10_explain 167 = .ok (.istore 4, 2) := by decide +kernel
theorem dX10_explain_169 : decode cX10_explain 169 = .ok (.iload 4, 2) := by decide +kernel
theorem dX10_explain_171 : decode cX10_explain 171 = .ok (.iload_n 1, 1) := by decide +kernel
theorem dX10_explain_172 : decode cX10_explain 172 = .ok (.if_icmp .ge 61, 3) := by decide +kernel
theorem dX10_explain_175 : decode cX10_explain 175 = .ok (.iload_n 3, 1) := by decide +kernel
theorem dX10_explain_176 : decode cX10_explain 176 = .ok (.iload 4, 2) := by decide +kernel
theorem dX10_explain_178 : decode cX10_explain 178 = .ok (.ishr, 1) := by decide +kernel
theorem dX10_explain_179 : decode cX10_explain 179 = .ok (.iconst 1, 1) := by decide +kernel
theorem dX10_explain_180 : decode cX10_explain 180 = .ok (.iand, 1) := by decide +kernel
theorem dX10_explain_181 : decode cX10_explain 181 = .ok (.iconst 1, 1) := by decide +kernel
theorem dX10_explain_182 : decode cX10_explain 182 = .ok (.if_icmp .ne 45, 3) := by decide +kernel
theorem dX10_explain_185 : decode cX10_explain 185 = .ok (.aload_n 0, 1) := by decide +kernel
theorem dX10_explain_186 : decode cX10_explain 186 = .ok (.getfield 101, 3) := by decide +kernel
theorem dX10_explain_189 : decode cX10_explain 189 = .ok (.aload_n 0, 1) := by decide +kernel
theorem dX10_explain_190 : decode cX10_explain 190 = .ok (.getfield 232, 3) := by decide +kernel
theorem dX10_explain_193 : decode cX10_explain 193 = .ok (.aload_n 0, 1) := by decide +kernel
theorem dX10_explain_194 : decode cX10_explain 194 = .ok (.getfield 91, 3) := by decide +kernel
theorem dX10_explain_197 : decode cX10_explain 197 = .ok (.iload 4, 2) := by decide +kernel
theorem dX10_explain_199 : decode cX10_explain 199 = .ok (.iaload, 1) := by decide +kernel
theorem dX10_explain_200 : decode cX10_explain 200 = .ok (.iastore, 1) := by decide +kernel
theorem dX10_explain_201 : decode cX10_explain 201 = .ok (.aload_n 0, 1) := by decide +kernel
theorem dX10_explain_202 : decode cX10_explain 202 = .ok (.getfield 104, 3) := by decide +kernel
theorem dX10_explain_205 : decode cX10_explain 205 = .ok (.aload_n 0, 1) := by decide +kernel
theorem dX10_explain_206 : decode cX10_explain 206 = .ok (.getfield 232, 3) := by decide +kernel
theorem dX10_explain_209 : decode cX10_explain 209 = .ok (.aload_n 0, 1) := by decide +kernel
theorem dX10_explain_210 : decode cX10_explain 210 = .ok (.getfield 94, 3) := by decide +kernel
theorem dX10_explain_213 : decode cX10_explain 213 = .ok (.iload 4, 2) := by decide +kernel
theorem dX10_explain_215 : decode cX10_explain 215 = .ok (.iaload, 1) := by decide +kernel
theorem dX10_explain_216 : decode cX10_explain 216 = .ok (.iastore, 1) := by decide +kernel
theorem dX10_explain_217 : decode cX10_explain 217 = .ok (.aload_n 0, 1) := by decide +kernel
theorem dX10_explain_218 : decode cX10_explain 218 = .ok (.dup, 1) := by decide +kernel
theorem dX10_explain_219 : decode cX10_explain 219 = .ok (.getfield 232, 3) := by decide +kernel
theorem dX10_explain_222 : decode cX10_explain 222 = .ok (.iconst 1, 1) := by decide +kernel
theorem dX10_explain_223 : decode cX10_explain 223 = .ok (.iadd, 1) := by decide +kernel
theorem dX10_explain_224 : decode cX10_explain 224 = .ok (.putfield 232, 3) := by decide +kernel
theorem dX10_explain_227 : decode cX10_explain 227 = .ok (.iinc 4 1, 3) := by decide +kernel
theorem dX10_explain_230 : decode cX10_explain 230 = .ok (.goto (-61), 3) := by decide +kernel
theorem dX10_explain_233 : decode cX10_explain 233 = .ok (.iload_n 2, 1) := by decide +kernel
theorem dX10_explain_234 : decode cX10_explain 234 = .ok (.ireturn, 1) := by decide +kernel
theorem dX10_explain_235 : decode cX10_explain 235 = .ok (.iinc 2 1, 3) := by decide +kernel
theorem dX10_explain_238 : decode cX10_explain 238 = .ok (.goto (-99), 3) := by decide +kernel
theorem dX10_explain_241 : decode cX10_explain 241 = .ok (.bipush (-6), 2) := by decide +kernel
theorem dX10_explain_243 : decode cX10_explain 243 = .ok (.ireturn, 1) := by decide +kernel
theorem dX10_explained_0 : decode cX10_explained 0 = .ok (.iload_n 1, 1) := by decide +kernel
theorem dX10_explained_1 : decode cX10_explained 1 = .ok (.ifCond .lt 20, 3) := by decide +kernel
theorem dX10_explained_4 : decode cX10_explained 4 = .ok (.iload_n 1, 1) := by decide +kernel
theorem dX10_explained_5 : decode cX10_explained 5 = .ok (.aload_n 0, 1) := by decide +kernel
theorem dX10_explained_6 : decode cX10_explained 6 = .ok (.getfield 232, 3) := by decide +kernel
theorem dX10_explained_9 : decode cX10_explained 9 = .ok (.if_icmp .ge 12, 3) := by decide +kernel
theorem dX10_explained_12 : decode cX10_explained 12 = .ok (.iload_n 2, 1) := by decide +kernel
theorem dX10_explained_13 : decode cX10_explained 13 = .ok (.iconst 0, 1) := by decide +kernel
theorem dX10_explained_14 : decode cX10_explained 14 = .ok (.iconst 1, 1) := by decide +kernel
theorem dX10_explained_15 : decode cX10_explained 15 = .ok (.invokestatic 116, 3) := by decide +kernel
theorem dX10_explained_18 : decode cX10_explained 18 = .ok (.ifCond .ne 5, 3) := by decide +kernel
theorem dX10_explained_21 : decode cX10_explained 21 = .ok (.iconst (-1), 1) := by decide +kernel
theorem dX10_explained_22 : decode cX10_explained 22 = .ok (.ireturn, 1) := by decide +kernel
theorem dX10_explained_23 : decode cX10_explained 23 = .ok (.iload_n 2, 1) := by decide +kernel
theorem dX10_explained_24 : decode cX10_explained 24 = .ok (.ifCond .ne 12, 3) := by decide +kernel
theorem dX10_explained_27 : decode cX10_explained 27 = .ok (.aload_n 0, 1) := by decide +kernel
theorem dX10_explained_28 : decode cX10_explained 28 = .ok (.getfield 101, 3) := by decide +kernel
theorem dX10_explained_31 : decode cX10_explained 31 = .ok (.iload_n 1, 1) := by decide +kernel
theorem dX10_explained_32 : decode cX10_explained 32 = .ok (.iaload, 1) := by decide +kernel
theorem dX10_explained_33 : decode cX10_explained 33 = .ok (.goto 9, 3) := by decide +kernel
theorem dX10_explained_36 : decode cX10_explained 36 = .ok (.aload_n 0, 1) := by decide +kernel
theorem dX10_explained_37 : decode cX10_explained 37 = .ok (.getfield 104, 3) := by decide +kernel
theorem dX10_explained_40 : decode cX10_explained 40 = .ok (.iload_n 1, 1) := by decide +kernel
theorem dX10_explained_41 : decode cX10_explained 41 = .ok (.iaload, 1) := by decide +kernel
theorem dX10_explained_42 : decode cX10_explained 42 = .ok (.ireturn, 1) := by decide +kernel
theorem dX10_undo_0 : decode cX10_undo 0 = .ok (.aload_n 0, 1) := by decide +kernel
theorem dX10_undo_1 : decode cX10_undo 1 = .ok (.getfield 130, 3) := by decide +kernel
theorem dX10_undo_4 : decode cX10_undo 4 = .ok (.ifCond .ne 5, 3) := by decide +kernel
theorem dX10_undo_7 : decode cX10_undo 7 = .ok (.iconst (-1), 1) := by decide +kernel
theorem dX10_undo_8 : decode cX10_undo 8 = .ok (.ireturn, 1) := by decide +kernel
theorem dX10_undo_9 : decode cX10_undo 9 = .ok (.aload_n 0, 1) := by decide +kernel
theorem dX10_undo_10 : decode cX10_undo 10 = .ok (.dup, 1) := by decide +kernel
theorem dX10_undo_11 : decode cX10_undo 11 = .ok (.getfield 130, 3) := by decide +kernel
theorem dX10_undo_14 : decode cX10_undo 14 = .ok (.iconst 1, 1) := by decide +kernel
theorem dX10_undo_15 : decode cX10_undo 15 = .ok (.isub, 1) := by decide +kernel
theorem dX10_undo_16 : decode cX10_undo 16 = .ok (.putfield 130, 3) := by decide +kernel
theorem dX10_undo_19 : decode cX10_undo 19 = .ok (.aload_n 0, 1) := by decide +kernel
theorem dX10_undo_20 : decode cX10_undo 20 = .ok (.iconst 0, 1) := by decide +kernel
theorem dX10_undo_21 : decode cX10_undo 21 = .ok (.putfield 123, 3) := by decide +kernel
theorem dX10_undo_24 : decode cX10_undo 24 = .ok (.aload_n 0, 1) := by decide +kernel
theorem dX10_undo_25 : decode cX10_undo 25 = .ok (.iconst 0, 1) := by decide +kernel
theorem dX10_undo_26 : decode cX10_undo 26 = .ok (.putfield 127, 3) := by decide +kernel
theorem dX10_undo_29 : decode cX10_undo 29 = .ok (.aload_n 0, 1) := by decide +kernel
theorem dX10_undo_30 : decode cX10_undo 30 = .ok (.getfield 110, 3) := by decide +kernel
theorem dX10_undo_33 : decode cX10_undo 33 = .ok (.aload_n 0, 1) := by decide +kernel
theorem dX10_undo_34 : decode cX10_undo 34 = .ok (.getfield 130, 3) := by decide +kernel
theorem dX10_undo_37 : decode cX10_undo 37 = .ok (.iaload, 1) := by decide +kernel
theorem dX10_undo_38 : decode cX10_undo 38 = .ok (.istore_n 1, 1) := by decide +kernel
theorem dX10_undo_39 : decode cX10_undo 39 = .ok (.aload_n 0, 1) := by decide +kernel
theorem dX10_undo_40 : decode cX10_undo 40 = .ok (.getfield 107, 3) := by decide +kernel
theorem dX10_undo_43 : decode cX10_undo 43 = .ok (.aload_n 0, 1) := by decide +kernel
theorem dX10_undo_44 : decode cX10_undo 44 = .ok (.getfield 130, 3) := by decide +kernel
theorem dX10_undo_47 : decode cX10_undo 47 = .ok (.iaload, 1) := by decide +kernel
theorem dX10_undo_48 : decode cX10_undo 48 = .ok (.tableswitch 188 0 3 #[32, 45, 93, 143], 32) := by decide +kernel
theorem dX10_undo_80 : decode cX10_undo 80 = .ok (.aload_n 0, 1) := by decide +kernel
theorem dX10_undo_81 : decode cX10_undo 81 = .ok (.getfield 28, 3) := by decide +kernel
theorem dX10_undo_84 : decode cX10_undo 84 = .ok (.iload_n 1, 1) := by decide +kernel
theorem dX10_undo_85 : decode cX10_undo 85 = .ok (.dup2, 1) := by decide +kernel
theorem dX10_undo_86 : decode cX10_undo 86 = .ok (.iaload, 1) := by decide +kernel
theorem dX10_undo_87 : decode cX10_undo 87 = .ok (.iconst 1, 1) := by decide +kernel
theorem dX10_undo_88 : decode cX10_undo 88 = .ok (.isub, 1) := by decide +kernel
theorem dX10_undo_89 : decode cX10_undo 89 = .ok (.iastore, 1) := by decide +kernel
theorem dX10_undo_90 : decode cX10_undo 90 = .ok (.goto 170, 3) := by decide +kernel
theorem dX10_undo_93 : decode cX10_undo 93 = .ok (.iconst 0, 1) := by decide +kernel
theorem dX10_undo_94 : decode cX10_undo 94 = .ok (.istore_n 2, 1) := by decide +kernel
theorem dX10_undo_95 : decode cX10_undo 95 = .ok (.iload_n 2, 1) := by decide +kernel
theorem dX10_undo_96 : decode cX10_undo 96 = .ok (.aload_n 0, 1) := by decide +kernel
theorem dX10_undo_97 : decode cX10_undo 97 = .ok (.getfield 41, 3) := by decide +kernel
theorem dX10_undo_100 : decode cX10_undo 100 = .ok (.iload_n 1, 1) := by decide +kernel
theorem dX10_undo_101 : decode cX10_undo 101 = .ok (.iaload, 1) := by decide +kernel
theorem dX10_undo_102 : decode cX10_undo 102 = .ok (.if_icmp .ge 26, 3) := by decide +kernel
theorem dX10_undo_105 : decode cX10_undo 105 = .ok (.aload_n 0, 1) := by decide +kernel
theorem dX10_undo_106 : decode cX10_undo 106 = .ok (.getfield 25, 3) := by decide +kernel
theorem dX10_undo_109 : decode cX10_undo 109 = .ok (.aload_n 0, 1) := by decide +kernel
theorem dX10_undo_110 : decode cX10_undo 110 = .ok (.getfield 38, 3) := by decide +kernel
theorem dX10_undo_113 : decode cX10_undo 113 = .ok (.bipush 8, 2) := by decide +kernel
theorem dX10_undo_115 : decode cX10_undo 115 = .ok (.iload_n 1, 1) := by decide +kernel
theorem dX10_undo_116 : decode cX10_undo 116 = .ok (.imul, 1) := by decide +kernel
theorem dX10_undo_117 : decode cX10_undo 117 = .ok (.iload_n 2, 1) := by decide +kernel
theorem dX10_undo_118 : decode cX10_undo 118 = .ok (.iadd, 1) := by decide +kernel
theorem dX10_undo_119 : decode cX10_undo 119 = .ok (.iaload, 1) := by decide +kernel
theorem dX10_undo_120 : decode cX10_undo 120 = .ok (.iconst (-1), 1) := by decide +kernel
theorem dX10_undo_121 : decode cX10_undo 121 = .ok (.iastore, 1) := by decide +kernel
theorem dX10_undo_122 : decode cX10_undo 122 = .ok (.iinc 2 1, 3) := by decide +kernel
theorem dX10_undo_125 : decode cX10_undo 125 = .ok (.goto (-30), 3) := by decide +kernel
theorem dX10_undo_128 : decode cX10_undo 128 = .ok (.aload_n 0, 1) := by decide +kernel
theorem dX10_undo_129 : decode cX10_undo 129 = .ok (.dup, 1) := by decide +kernel
theorem dX10_undo_130 : decode cX10_undo 130 = .ok (.getfield 120, 3) := by decide +kernel
theorem dX10_undo_133 : decode cX10_undo 133 = .ok (.iconst 1, 1) := by decide +kernel
theorem dX10_undo_134 : decode cX10_undo 134 = .ok (.isub, 1) := by decide +kernel
theorem dX10_undo_135 : decode cX10_undo 135 = .ok (.putfield 120, 3) := by decide +kernel
theorem dX10_undo_138 : decode cX10_undo 138 = .ok (.goto 122, 3) := by decide +kernel
theorem dX10_undo_141 : decode cX10_undo 141 = .ok (.aload_n 0, 1) := by decide +kernel
theorem dX10_undo_142 : decode cX10_undo 142 = .ok (.getfield 41, 3) := by decide +kernel
theorem dX10_undo_145 : decode cX10_undo 145 = .ok (.iload_n 1, 1) := by decide +kernel
theorem dX10_undo_146 : decode cX10_undo 146 = .ok (.dup2, 1) := by decide +kernel
theorem dX10_undo_147 : decode cX10_undo 147 = .ok (.iaload, 1) := by decide +kernel
theorem dX10_undo_148 : decode cX10_undo 148 = .ok (.iconst 1, 1) := by decide +kernel
theorem dX10_undo_149 : decode cX10_undo 149 = .ok (.isub, 1) := by decide +kernel
theorem dX10_undo_150 : decode cX10_undo 150 = .ok (.iastore, 1) := by decide +kernel
theorem dX10_undo_151 : decode cX10_undo 151 = .ok (.aload_n 0, 1) := by decide +kernel
theorem dX10_undo_152 : decode cX10_undo 152 = .ok (.getfield 25, 3) := by decide +kernel
theorem dX10_undo_155 : decode cX10_undo 155 = .ok (.aload_n 0, 1) := by decide +kernel
theorem dX10_undo_156 : decode cX10_undo 156 = .ok (.getfield 38, 3) := by decide +kernel
theorem dX10_undo_159 : decode cX10_undo 159 = .ok (.bipush 8, 2) := by decide +kernel
theorem dX10_undo_161 : decode cX10_undo 161 = .ok (.iload_n 1, 1) := by decide +kernel
theorem dX10_undo_162 : decode cX10_undo 162 = .ok (.imul, 1) := by decide +kernel
theorem dX10_undo_163 : decode cX10_undo 163 = .ok (.aload_n 0, 1) := by decide +kernel
theorem dX10_undo_164 : decode cX10_undo 164 = .ok (.getfield 41, 3) := by decide +kernel
theorem dX10_undo_167 : decode cX10_undo 167 = .ok (.iload_n 1, 1) := by decide +kernel
theorem dX10_undo_168 : decode cX10_undo 168 = .ok (.iaload, 1) := by decide +kernel
theorem dX10_undo_169 : decode cX10_undo 169 = .ok (.iadd, 1) := by decide +kernel
theorem dX10_undo_170 : decode cX10_undo 170 = .ok (.iaload, 1) := by decide +kernel
theorem dX10_undo_171 : decode cX10_undo 171 = .ok (.iconst (-1), 1) := by decide +kernel
theorem dX10_undo_172 : decode cX10_undo 172 = .ok (.iastore, 1) := by decide +kernel
theorem dX10_undo_173 : decode cX10_undo 173 = .ok (.aload_n 0, 1) := by decide +kernel
theorem dX10_undo_174 : decode cX10_undo 174 = .ok (.getfield 35, 3) := by decide +kernel
theorem dX10_undo_177 : decode cX10_undo 177 = .ok (.iload_n 1, 1) := by decide +kernel
theorem dX10_undo_178 : decode cX10_undo 178 = .ok (.aload_n 0, 1) := by decide +kernel
theorem dX10_undo_179 : decode cX10_undo 179 = .ok (.getfield 113, 3) := by decide +kernel
theorem dX10_undo_182 : decode cX10_undo 182 = .ok (.aload_n 0, 1) := by decide +kernel
theorem dX10_undo_183 : decode cX10_undo 183 = .ok (.getfield 130, 3) := by decide +kernel
theorem dX10_undo_186 : decode cX10_undo 186 = .ok (.iaload, 1) := by decide +kernel
theorem dX10_undo_187 : decode cX10_undo 187 = .ok (.iastore, 1) := by decide +kernel
theorem dX10_undo_188 : decode cX10_undo 188 = .ok (.goto 72, 3) := by decide +kernel
theorem dX10_undo_191 : decode cX10_undo 191 = .ok (.aload_n 0, 1) := by decide +kernel
theorem dX10_undo_192 : decode cX10_undo 192 = .ok (.getfield 47, 3) := by decide +kernel
theorem dX10_undo_195 : decode cX10_undo 195 = .ok (.iload_n 1, 1) := by decide +kernel
theorem dX10_undo_196 : decode cX10_undo 196 = .ok (.iconst (-1), 1) := by decide +kernel
theorem dX10_undo_197 : decode cX10_undo 197 = .ok (.iastore, 1) := by decide +kernel
theorem dX10_undo_198 : decode cX10_undo 198 = .ok (.iconst 0, 1) := by decide +kernel
theorem dX10_undo_199 : decode cX10_undo 199 = .ok (.istore_n 2, 1) := by decide +kernel
theorem dX10_undo_200 : decode cX10_undo 200 = .ok (.iload_n 2, 1) := by decide +kernel
theorem dX10_undo_201 : decode cX10_undo 201 = .ok (.aload_n 0, 1) := by decide +kernel
theorem dX10_undo_202 : decode cX10_undo 202 = .ok (.getfield 41, 3) := by decide +kernel
theorem dX10_undo_205 : decode cX10_undo 205 = .ok (.iload_n 1, 1) := by decide +kernel
theorem dX10_undo_206 : decode cX10_undo 206 = .ok (.iaload, 1) := by decide +kernel
theorem dX10_undo_207 : decode cX10_undo 207 = .ok (.if_icmp .ge 26, 3) := by decide +kernel
theorem dX10_undo_210 : decode cX10_undo 210 = .ok (.aload_n 0, 1) := by decide +kernel
theorem dX10_undo_211 : decode cX10_undo 211 = .ok (.getfield 25, 3) := by decide +kernel
theorem dX10_undo_214 : decode cX10_undo 214 = .ok (.aload_n 0, 1) := by decide +kernel
theorem dX10_undo_215 : decode cX10_undo 215 = .ok (.getfield 38, 3) := by decide +kernel
theorem dX10_undo_218 : decode cX10_undo 218 = .ok (.bipush 8, 2) := by decide +kernel
theorem dX10_undo_220 : decode cX10_undo 220 = .ok (.iload_n 1, 1) := by decide +kernel
theorem dX10_undo_221 : decode cX10_undo 221 = .ok (.imul, 1) := by decide +kernel
theorem dX10_undo_222 : decode cX10_undo 222 = .ok (.iload_n 2, 1) := by decide +kernel
theorem dX10_undo_223 : decode cX10_undo 223 = .ok (.iadd, 1) := by decide +kernel
theorem dX10_undo_224 : decode cX10_undo 224 = .ok (.iaload, 1) := by decide +kernel
theorem dX10_undo_225 : decode cX10_undo 225 = .ok (.iload_n 1, 1) := by decide +kernel
theorem dX10_undo_226 : decode cX10_undo 226 = .ok (.iastore, 1) := by decide +kernel
theorem dX10_undo_227 : decode cX10_undo 227 = .ok (.iinc 2 1, 3) := by decide +kernel
theorem dX10_undo_230 : decode cX10_undo 230 = .ok (.goto (-30), 3) := by decide +kernel
theorem dX10_undo_233 : decode cX10_undo 233 = .ok (.goto 27, 3) := by decide +kernel
theorem dX10_undo_236 : decode cX10_undo 236 = .ok (.aload_n 0, 1) := by decide +kernel
theorem dX10_undo_237 : decode cX10_undo 237 = .ok (.getfield 50, 3) := by decide +kernel
theorem dX10_undo_240 : decode cX10_undo 240 = .ok (.iload_n 1, 1) := by decide +kernel
theorem dX10_undo_241 : decode cX10_undo 241 = .ok (.aload_n 0, 1) := by decide +kernel
theorem dX10_undo_242 : decode cX10_undo 242 = .ok (.getfield 113, 3) := by decide +kernel
theorem dX10_undo_245 : decode cX10_undo 245 = .ok (.aload_n 0, 1) := by decide +kernel
theorem dX10_undo_246 : decode cX10_undo 246 = .ok (.getfield 130, 3) := by decide +kernel
theorem dX10_undo_249 : decode cX10_undo 249 = .ok (.iaload, 1) := by decide +kernel
theorem dX10_undo_250 : decode cX10_undo 250 = .ok (.iconst 1, 1) := by decide +kernel
theorem dX10_undo_251 : decode cX10_undo 251 = .ok (.if_icmp .ne 7, 3) := by decide +kernel
theorem dX10_undo_254 : decode cX10_undo 254 = .ok (.iconst 1, 1) := by decide +kernel
theorem dX10_undo_255 : decode cX10_undo 255 = .ok (.goto 4, 3) := by decide +kernel
theorem dX10_undo_258 : decode cX10_undo 258 = .ok (.iconst 0, 1) := by decide +kernel
theorem dX10_undo_259 : decode cX10_undo 259 = .ok (.bastore, 1) := by decide +kernel
theorem dX10_undo_260 : decode cX10_undo 260 = .ok (.aload_n 0, 1) := by decide +kernel
theorem dX10_undo_261 : decode cX10_undo 261 = .ok (.getfield 130, 3) := by decide +kernel
theorem dX10_undo_264 : decode cX10_undo 264 = .ok (.ireturn, 1) := by decide +kernel
theorem dX10_count_0 : decode cX10_count 0 = .ok (.iconst 0, 1) := by decide +kernel
theorem dX10_count_1 : decode cX10_count 1 = .ok (.istore_n 2, 1) := by decide +kernel
theorem dX10_count_2 : decode cX10_count 2 = .ok (.iload_n 1, 1) := by decide +kernel
theorem dX10_count_3 : decode cX10_count 3 = .ok (.tableswitch 94 0 5 #[37, 37, 44, 49, 84, 89], 37) := by decide +kernel
theorem dX10_count_40 : decode cX10_count 40 = .ok (.aload_n 0, 1) := by decide +kernel
theorem dX10_count_41 : decode cX10_count 41 = .ok (.getfield 28, 3) := by decide +kernel
theorem dX10_count_44 : decode cX10_count 44 = .ok (.iload_n 1, 1) := by decide +kernel
theorem dX10_count_45 : decode cX10_count 45 = .ok (.iaload, 1) := by decide +kernel
theorem dX10_count_46 : decode cX10_count 46 = .ok (.ireturn, 1) := by decide +kernel
theorem dX10_count_47 : decode cX10_count 47 = .ok (.aload_n 0, 1) := by decide +kernel
theorem dX10_count_48 : decode cX10_count 48 = .ok (.getfield 120, 3) := by decide +kernel
theorem dX10_count_51 : decode cX10_count 51 = .ok (.ireturn, 1) := by decide +kernel
theorem dX10_count_52 : decode cX10_count 52 = .ok (.iconst 0, 1) := by decide +kernel
theorem dX10_count_53 : decode cX10_count 53 = .ok (.istore_n 3, 1) := by decide +kernel
theorem dX10_count_54 : decode cX10_count 54 = .ok (.iload_n 3, 1) := by decide +kernel
theorem dX10_count_55 : decode cX10_count 55 = .ok (.aload_n 0, 1) := by decide +kernel
theorem dX10_count_56 : decode cX10_count 56 = .ok (.getfield 120, 3) := by decide +kernel
theorem dX10_count_59 : decode cX10_count 59 = .ok (.if_icmp .ge 26, 3) := by decide +kernel
theorem dX10_count_62 : decode cX10_count 62 = .ok (.iload_n 2, 1) := by decide +kernel
theorem dX10_count_63 : decode cX10_count 63 = .ok (.aload_n 0, 1) := by decide +kernel
theorem dX10_count_64 : decode cX10_count 64 = .ok (.getfield 47, 3) := by decide +kernel
theorem dX10_count_67 : decode cX10_count 67 = .ok (.iload_n 3, 1) := by decide +kernel
theorem dX10_count_68 : decode cX10_count 68 = .ok (.iaload, 1) := by decide +kernel
theorem dX10_count_69 : decode cX10_count 69 = .ok (.ifCond .ge 7, 3) := by decide +kernel
theorem dX10_count_72 : decode cX10_count 72 = .ok (.iconst 1, 1) := by decide +kernel
theorem dX10_count_73 : decode cX10_count 73 = .ok (.goto 4, 3) := by decide +kernel
theorem dX10_count_76 : decode cX10_count 76 = .ok (.iconst 0, 1) := by decide +kernel
theorem dX10_count_77 : decode cX10_count 77 = .ok (.iadd, 1) := by decide +kernel
theorem dX10_count_78 : decode cX10_count 78 = .ok (.istore_n 2, 1) := by decide +kernel
theorem dX10_count_79 : decode cX10_count 79 = .ok (.iinc 3 1, 3) := by decide +kernel
theorem dX10_count_82 : decode cX10_count 82 = .ok (.goto (-28), 3) := by decide +kernel
theorem dX10_count_85 : decode cX10_count 85 = .ok (.iload_n 2, 1) := by decide +kernel
theorem dX10_count_86 : decode cX10_count 86 = .ok (.ireturn, 1) := by decide +kernel
theorem dX10_count_87 : decode cX10_count 87 = .ok (.aload_n 0, 1) := by decide +kernel
theorem dX10_count_88 : decode cX10_count 88 = .ok (.getfield 130, 3) := by decide +kernel
theorem dX10_count_91 : decode cX10_count 91 = .ok (.ireturn, 1) := by decide +kernel
theorem dX10_count_92 : decode cX10_count 92 = .ok (.aload_n 0, 1) := by decide +kernel
theorem dX10_count_93 : decode cX10_count 93 = .ok (.getfield 136, 3) := by decide +kernel
theorem dX10_count_96 : decode cX10_count 96 = .ok (.ireturn, 1) := by decide +kernel
theorem dX10_count_97 : decode cX10_count 97 = .ok (.iconst (-1), 1) := by decide +kernel
theorem dX10_count_98 : decode cX10_count 98 = .ok (.ireturn, 1) := by decide +kernel
theorem dX10_check_0 : decode cX10_check 0 = .ok (.iconst 1, 1) := by decide +kernel
theorem dX10_check_1 : decode cX10_check 1 = .ok (.istore_n 1, 1) := by decide +kernel
theorem dX10_check_2 : decode cX10_check 2 = .ok (.iconst 1, 1) := by decide +kernel
theorem dX10_check_3 : decode cX10_check 3 = .ok (.istore_n 2, 1) := by decide +kernel
theorem dX10_check_4 : decode cX10_check 4 = .ok (.iconst 0, 1) := by decide +kernel
theorem dX10_check_5 : decode cX10_check 5 = .ok (.istore_n 3, 1) := by decide +kernel
theorem dX10_check_6 : decode cX10_check 6 = .ok (.iload_n 3, 1) := by decide +kernel
theorem dX10_check_7 : decode cX10_check 7 = .ok (.aload_n 0, 1) := by decide +kernel
theorem dX10_check_8 : decode cX10_check 8 = .ok (.getfield 120, 3) := by decide +kernel
theorem dX10_check_11 : decode cX10_check 11 = .ok (.if_icmp .ge 113, 3) := by decide +kernel
theorem dX10_check_14 : decode cX10_check 14 = .ok (.iconst 0, 1) := by decide +kernel
theorem dX10_check_15 : decode cX10_check 15 = .ok (.istore 4, 2) := by decide +kernel
theorem dX10_check_17 : decode cX10_check 17 = .ok (.iconst 0, 1) := by decide +kernel
theorem dX10_check_18 : decode cX10_check 18 = .ok (.istore 5, 2) := by decide +kernel
theorem dX10_check_20 : decode cX10_check 20 = .ok (.iload 5, 2) := by decide +kernel
theorem dX10_check_22 : decode cX10_check 22 = .ok (.aload_n 0, 1) := by decide +kernel
theorem dX10_check_23 : decode cX10_check 23 = .ok (.getfield 41, 3) := by decide +kernel
theorem dX10_check_26 : decode cX10_check 26 = .ok (.iload_n 3, 1) := by decide +kernel
theorem dX10_check_27 : decode cX10_check 27 = .ok (.iaload, 1) := by decide +kernel
theorem dX10_check_28 : decode cX10_check 28 = .ok (.if_icmp .ge 65, 3) := by decide +kernel
theorem dX10_check_31 : decode cX10_check 31 = .ok (.aload_n 0, 1) := by decide +kernel
theorem dX10_check_32 : decode cX10_check 32 = .ok (.getfield 47, 3) := by decide +kernel
theorem dX10_check_35 : decode cX10_check 35 = .ok (.iload_n 3, 1) := by decide +kernel
theorem dX10_check_36 : decode cX10_check 36 = .ok (.iaload, 1) := by decide +kernel
theorem dX10_check_37 : decode cX10_check 37 = .ok (.ifCond .ge 56, 3) := by decide +kernel
theorem dX10_check_40 : decode cX10_check 40 = .ok (.aload_n 0, 1) := by decide +kernel
theorem dX10_check_41 : decode cX10_check 41 = .ok (.getfield 38, 3) := by decide +kernel
theorem dX10_check_44 : decode cX10_check 44 = .ok (.bipush 8, 2) := by decide +kernel
theorem dX10_check_46 : decode cX10_check 46 = .ok (.iload_n 3, 1) := by decide +kernel
theorem dX10_check_47 : decode cX10_check 47 = .ok (.imul, 1) := by decide +kernel
theorem dX10_check_48 : decode cX10_check 48 = .ok (.iload 5, 2) := by decide +kernel
theorem dX10_check_50 : decode cX10_check 50 = .ok (.iadd, 1) := by decide +kernel
theorem dX10_check_51 : decode cX10_check 51 = .ok (.iaload, 1) := by decide +kernel
theorem dX10_check_52 : decode cX10_check 52 = .ok (.istore 6, 2) := by decide +kernel
theorem dX10_check_54 : decode cX10_check 54 = .ok (.iload_n 1, 1) := by decide +kernel
theorem dX10_check_55 : decode cX10_check 55 = .ok (.ifCond .eq 18, 3) := by decide +kernel
theorem dX10_check_58 : decode cX10_check 58 = .ok (.aload_n 0, 1) := by decide +kernel
theorem dX10_check_59 : decode cX10_check 59 = .ok (.getfield 25, 3) := by decide +kernel
theorem dX10_check_62 : decode cX10_check 62 = .ok (.iload 6, 2) := by decide +kernel
theorem dX10_check_64 : decode cX10_check 64 = .ok (.iaload, 1) := by decide +kernel
theorem dX10_check_65 : decode cX10_check 65 = .ok (.iload_n 3, 1) := by decide +kernel
theorem dX10_check_66 : decode cX10_check 66 = .ok (.if_icmp .ne 7, 3) := by decide +kernel
theorem dX10_check_69 : decode cX10_check 69 = .ok (.iconst 1, 1) := by decide +kernel
theorem dX10_check_70 : decode cX10_check 70 = .ok (.goto 4, 3) := by decide +kernel
theorem dX10_check_73 : decode cX10_check 73 = .ok (.iconst 0, 1) := by decide +kernel
theorem dX10_check_74 : decode cX10_check 74 = .ok (.istore_n 1, 1) := by decide +kernel
theorem dX10_check_75 : decode cX10_check 75 = .ok (.iload 4, 2) := by decide +kernel
theorem dX10_check_77 : decode cX10_check 77 = .ok (.iconst 1, 1) := by decide +kernel
theorem dX10_check_78 : decode cX10_check 78 = .ok (.iload 6, 2) := by decide +kernel
theorem dX10_check_80 : decode cX10_check 80 = .ok (.bipush 80, 2) := by decide +kernel
theorem dX10_check_82 : decode cX10_check 82 = .ok (.idiv, 1) := by decide +kernel
theorem dX10_check_83 : decode cX10_check 83 = .ok (.ishl, 1) := by decide +kernel
theorem dX10_check_84 : decode cX10_check 84 = .ok (.ior, 1) := by decide +kernel
theorem dX10_check_85 : decode cX10_check 85 = .ok (.istore 4, 2) := by decide +kernel
theorem dX10_check_87 : decode cX10_check 87 = .ok (.iinc 5 1, 3) := by decide +kernel
theorem dX10_check_90 : decode cX10_check 90 = .ok (.goto (-70), 3) := by decide +kernel
theorem dX10_check_93 : decode cX10_check 93 = .ok (.iload_n 2, 1) := by decide +kernel
theorem dX10_check_94 : decode cX10_check 94 = .ok (.ifCond .eq 22, 3) := by decide +kernel
theorem dX10_check_97 : decode cX10_check 97 = .ok (.aload_n 0, 1) := by decide +kernel
theorem dX10_check_98 : decode cX10_check 98 = .ok (.getfield 47, 3) := by decide +kernel
theorem dX10_check_101 : decode cX10_check 101 = .ok (.iload_n 3, 1) := by decide +kernel
theorem dX10_check_102 : decode cX10_check 102 = .ok (.iaload, 1) := by decide +kernel
theorem dX10_check_103 : decode cX10_check 103 = .ok (.ifCond .ge 9, 3) := by decide +kernel
theorem dX10_check_106 : decode cX10_check 106 = .ok (.iload 4, 2) := by decide +kernel
theorem dX10_check_108 : decode cX10_check 108 = .ok (.iconst 3, 1) := by decide +kernel
theorem dX10_check_109 : decode cX10_check 109 = .ok (.if_icmp .ne 7, 3) := by decide +kernel
theorem dX10_check_112 : decode cX10_check 112 = .ok (.iconst 1, 1) := by decide +kernel
theorem dX10_check_113 : decode cX10_check 113 = .ok (.goto 4, 3) := by decide +kernel
theorem dX10_check_116 : decode cX10_check 116 = .ok (.iconst 0, 1) := by decide +kernel
theorem dX10_check_117 : decode cX10_check 117 = .ok (.istore_n 2, 1) := by decide +kernel
theorem dX10_check_118 : decode cX10_check 118 = .ok (.iinc 3 1, 3) := by decide +kernel
theorem dX10_check_121 : decode cX10_check 121 = .ok (.goto (-115), 3) := by decide +kernel
theorem dX10_check_124 : decode cX10_check 124 = .ok (.iload_n 1, 1) := by decide +kernel
theorem dX10_check_125 : decode cX10_check 125 = .ok (.ifCond .eq 7, 3) := by decide +kernel
theorem dX10_check_128 : decode cX10_check 128 = .ok (.iconst 0, 1) := by decide +kernel
theorem dX10_check_129 : decode cX10_check 129 = .ok (.goto 4, 3) := by decide +kernel
theorem dX10_check_132 : decode cX10_check 132 = .ok (.iconst 1, 1) := by decide +kernel
theorem dX10_check_133 : decode cX10_check 133 = .ok (.aload_n 0, 1) := by decide +kernel
theorem dX10_check_134 : decode cX10_check 134 = .ok (.iconst 0, 1) := by decide +kernel
theorem dX10_check_135 : decode cX10_check 135 = .ok (.invokevirtual 229, 3) := by decide +kernel
theorem dX10_check_138 : decode cX10_check 138 = .ok (.aload_n 0, 1) := by decide +kernel
theorem dX10_check_139 : decode cX10_check 139 = .ok (.iconst 1, 1) := by decide +kernel
theorem dX10_check_140 : decode cX10_check 140 = .ok (.invokevirtual 229, 3) := by decide +kernel
theorem dX10_check_143 : decode cX10_check 143 = .ok (.aload_n 0, 1) := by decide +kernel
theorem dX10_check_144 : decode cX10_check 144 = .ok (.iconst 2, 1) := by decide +kernel
theorem dX10_check_145 : decode cX10_check 145 = .ok (.invokevirtual 229, 3) := by decide +kernel
theorem dX10_check_148 : decode cX10_check 148 = .ok (.lsub, 1) := by decide +kernel
theorem dX10_check_149 : decode cX10_check 149 = .ok (.aload_n 0, 1) := by decide +kernel
theorem dX10_check_150 : decode cX10_check 150 = .ok (.iconst 3, 1) := by decide +kernel
theorem dX10_check_151 : decode cX10_check 151 = .ok (.invokevirtual 229, 3) := by decide +kernel
theorem dX10_check_154 : decode cX10_check 154 = .ok (.ladd, 1) := by decide +kernel
theorem dX10_check_155 : decode cX10_check 155 = .ok (.lcmp, 1) := by decide +kernel
theorem dX10_check_156 : decode cX10_check 156 = .ok (.ifCond .ne 7, 3) := by decide +kernel
theorem dX10_check_159 : decode cX10_check 159 = .ok (.iconst 0, 1) := by decide +kernel
theorem dX10_check_160 : decode cX10_check 160 = .ok (.goto 4, 3) := by decide +kernel
theorem dX10_check_163 : decode cX10_check 163 = .ok (.iconst 1, 1) := by decide +kernel
theorem dX10_check_164 : decode cX10_check 164 = .ok (.iadd, 1) := by decide +kernel
theorem dX10_check_165 : decode cX10_check 165 = .ok (.iload_n 2, 1) := by decide +kernel
theorem dX10_check_166 : decode cX10_check 166 = .ok (.ifCond .eq 7, 3) := by decide +kernel
theorem dX10_check_169 : decode cX10_check 169 = .ok (.iconst 0, 1) := by decide +kernel
theorem dX10_check_170 : decode cX10_check 170 = .ok (.goto 4, 3) := by decide +kernel
theorem dX10_check_173 : decode cX10_check 173 = .ok (.iconst 1, 1) := by decide +kernel
theorem dX10_check_174 : decode cX10_check 174 = .ok (.iadd, 1) := by decide +kernel
theorem dX10_check_175 : decode cX10_check 175 = .ok (.ireturn, 1) := by decide +kernel
