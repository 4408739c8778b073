theorem dX8_copy_31 : decode cX8_copy 31 = .ok (.invokestatic 22, 3) := by decide +kernel
theorem dX8_copy_34 : decode cX8_copy 34 = .ok (.aload_n 0, 1) := by decide +kernel
theorem dX8_copy_35 : decode cX8_copy 35 = .ok (.aload_n 1, 1) := by decide +kernel
theorem dX8_copy_36 : decode cX8_copy 36 = .ok (.getfield 18, 3) := by decide +kernel
theorem dX8_copy_39 : decode cX8_copy 39 = .ok (.putfield 18, 3) := by decide +kernel
theorem dX8_copy_42 : decode cX8_copy 42 = .ok (.return_, 1) := by decide +kernel
theorem dX8_merge_0 : decode cX8_merge 0 = .ok (.iconst 0, 1) := by decide +kernel
theorem dX8_merge_1 : decode cX8_merge 1 = .ok (.istore 4, 2) := by decide +kernel
theorem dX8_merge_3 : decode cX8_merge 3 = .ok (.iconst 0, 1) := by decide +kernel
theorem dX8_merge_4 : decode cX8_merge 4 = .ok (.istore 5, 2) := by decide +kernel
theorem dX8_merge_6 : decode cX8_merge 6 = .ok (.aload_n 0, 1) := by decide +kernel
theorem dX8_merge_7 : decode cX8_merge 7 = .ok (.iconst 0, 1) := by decide +kernel
theorem dX8_merge_8 : decode cX8_merge 8 = .ok (.putfield 18, 3) := by decide +kernel
theorem dX8_merge_11 : decode cX8_merge 11 = .ok (.aload_n 0, 1) := by decide +kernel
theorem dX8_merge_12 : decode cX8_merge 12 = .ok (.getfield 18, 3) := by decide +kernel
theorem dX8_merge_15 : decode cX8_merge 15 = .ok (.sipush 512, 3) := by decide +kernel
theorem dX8_merge_18 : decode cX8_merge 18 = .ok (.if_icmp .ge 189, 3) := by decide +kernel
theorem dX8_merge_21 : decode cX8_merge 21 = .ok (.iload 4, 2) := by decide +kernel
theorem dX8_merge_23 : decode cX8_merge 23 = .ok (.aload_n 1, 1) := by decide +kernel
theorem dX8_merge_24 : decode cX8_merge 24 = .ok (.getfield 18, 3) := by decide +kernel
theorem dX8_merge_27 : decode cX8_merge 27 = .ok (.if_icmp .lt 12, 3) := by decide +kernel
theorem dX8_merge_30 : decode cX8_merge 30 = .ok (.iload 5, 2) := by decide +kernel
theorem dX8_merge_32 : decode cX8_merge 32 = .ok (.aload_n 1, 1) := by decide +kernel
theorem dX8_merge_33 : decode cX8_merge 33 = .ok (.getfield 18, 3) := by decide +kernel
theorem dX8_merge_36 : decode cX8_merge 36 = .ok (.if_icmp .ge 171, 3) := by decide +kernel
theorem dX8_merge_39 : decode cX8_merge 39 = .ok (.iload 4, 2) := by decide +kernel
theorem dX8_merge_41 : decode cX8_merge 41 = .ok (.aload_n 1, 1) := by decide +kernel
theorem dX8_merge_42 : decode cX8_merge 42 = .ok (.getfield 18, 3) := by decide +kernel
theorem dX8_merge_45 : decode cX8_merge 45 = .ok (.if_icmp .ge 13, 3) := by decide +kernel
theorem dX8_merge_48 : decode cX8_merge 48 = .ok (.aload_n 1, 1) := by decide +kernel
theorem dX8_merge_49 : decode cX8_merge 49 = .ok (.getfield 11, 3) := by decide +kernel
theorem dX8_merge_52 : decode cX8_merge 52 = .ok (.iload 4, 2) := by decide +kernel
theorem dX8_merge_54 : decode cX8_merge 54 = .ok (.iaload, 1) := by decide +kernel
theorem dX8_merge_55 : decode cX8_merge 55 = .ok (.goto 5, 3) := by decide +kernel
theorem dX8_merge_58 : decode cX8_merge 58 = .ok (.ldc 28, 2) := by decide +kernel
theorem dX8_merge_60 : decode cX8_merge 60 = .ok (.istore 6, 2) := by decide +kernel
theorem dX8_merge_62 : decode cX8_merge 62 = .ok (.iload 5, 2) := by decide +kernel
theorem dX8_merge_64 : decode cX8_merge 64 = .ok (.aload_n 1, 1) := by decide +kernel
theorem dX8_merge_65 : decode cX8_merge 65 = .ok (.getfield 18, 3) := by decide +kernel
theorem dX8_merge_68 : decode cX8_merge 68 = .ok (.if_icmp .ge 15, 3) := by decide +kernel
theorem dX8_merge_71 : decode cX8_merge 71 = .ok (.aload_n 1, 1) := by decide +kernel
theorem dX8_merge_72 : decode cX8_merge 72 = .ok (.getfield 11, 3) := by decide +kernel
theorem dX8_merge_75 : decode cX8_merge 75 = .ok (.iload 5, 2) := by decide +kernel
theorem dX8_merge_77 : decode cX8_merge 77 = .ok (.iaload, 1) := by decide +kernel
theorem dX8_merge_78 : decode cX8_merge 78 = .ok (.iload_n 2, 1) := by decide +kernel
theorem dX8_merge_79 : decode cX8_merge 79 = .ok (.iadd, 1) := by decide +kernel
theorem dX8_merge_80 : decode cX8_merge 80 = .ok (.goto 5, 3) := by decide +kernel
theorem dX8_merge_83 : decode cX8_merge 83 = .ok (.ldc 28, 2) := by decide +kernel
theorem dX8_merge_85 : decode cX8_merge 85 = .ok (.istore 7, 2) := by decide +kernel
theorem dX8_merge_87 : decode cX8_merge 87 = .ok (.aload_n 0, 1) := by decide +kernel
theorem dX8_merge_88 : decode cX8_merge 88 = .ok (.getfield 11, 3) := by decide +kernel
theorem dX8_merge_91 : decode cX8_merge 91 = .ok (.aload_n 0, 1) := by decide +kernel
theorem dX8_merge_92 : decode cX8_merge 92 = .ok (.getfield 18, 3) := by decide +kernel
theorem dX8_merge_95 : decode cX8_merge 95 = .ok (.iload 6, 2) := by decide +kernel
theorem dX8_merge_97 : decode cX8_merge 97 = .ok (.iload 7, 2) := by decide +kernel
theorem dX8_merge_99 : decode cX8_merge 99 = .ok (.invokestatic 29, 3) := by decide +kernel
theorem dX8_merge_102 : decode cX8_merge 102 = .ok (.iastore, 1) := by decide +kernel
theorem dX8_merge_103 : decode cX8_merge 103 = .ok (.aload_n 0, 1) := by decide +kernel
theorem dX8_merge_104 : decode cX8_merge 104 = .ok (.getfield 15, 3) := by decide +kernel
theorem dX8_merge_107 : decode cX8_merge 107 = .ok (.aload_n 0, 1) := by decide +kernel
theorem dX8_merge_108 : decode cX8_merge 108 = .ok (.getfield 18, 3) := by decide +kernel
theorem dX8_merge_111 : decode cX8_merge 111 = .ok (.ldc 28, 2) := by decide +kernel
theorem dX8_merge_113 : decode cX8_merge 113 = .ok (.iastore, 1) := by decide +kernel
theorem dX8_merge_114 : decode cX8_merge 114 = .ok (.iload 6, 2) := by decide +kernel
theorem dX8_merge_116 : decode cX8_merge 116 = .ok (.aload_n 0, 1) := by decide +kernel
theorem dX8_merge_117 : decode cX8_merge 117 = .ok (.getfield 11, 3) := by decide +kernel
theorem dX8_merge_120 : decode cX8_merge 120 = .ok (.aload_n 0, 1) := by decide +kernel
theorem dX8_merge_121 : decode cX8_merge 121 = .ok (.getfield 18, 3) := by decide +kernel
theorem dX8_merge_124 : decode cX8_merge 124 = .ok (.iaload, 1) := by decide +kernel
theorem dX8_merge_125 : decode cX8_merge 125 = .ok (.if_icmp .ne 22, 3) := by decide +kernel
theorem dX8_merge_128 : decode cX8_merge 128 = .ok (.aload_n 0, 1) := by decide +kernel
theorem dX8_merge_129 : decode cX8_merge 129 = .ok (.getfield 15, 3) := by decide +kernel
theorem dX8_merge_132 : decode cX8_merge 132 = .ok (.aload_n 0, 1) := by decide +kernel
theorem dX8_merge_133 : decode cX8_merge 133 = .ok (.getfield 18, 3) := by decide +kernel
theorem dX8_merge_136 : decode cX8_merge 136 = .ok (.aload_n 1, 1) := by decide +kernel
theorem dX8_merge_137 : decode cX8_merge 137 = .ok (.getfield 15, 3) := by decide +kernel
theorem dX8_merge_140 : decode cX8_merge 140 = .ok (.iload 4, 2) := by decide +kernel
theorem dX8_merge_142 : decode cX8_merge 142 = .ok (.iaload, 1) := by decide +kernel
theorem dX8_merge_143 : decode cX8_merge 143 = .ok (.iastore, 1) := by decide +kernel
theorem dX8_merge_144 : decode cX8_merge 144 = .ok (.iinc 4 1, 3) := by decide +kernel
theorem dX8_merge_147 : decode cX8_merge 147 = .ok (.iload 7, 2) := by decide +kernel
theorem dX8_merge_149 : decode cX8_merge 149 = .ok (.aload_n 0, 1) := by decide +kernel
theorem dX8_merge_150 : decode cX8_merge 150 = .ok (.getfield 11, 3) := by decide +kernel
theorem dX8_merge_153 : decode cX8_merge 153 = .ok (.aload_n 0, 1) := by decide +kernel
theorem dX8_merge_154 : decode cX8_merge 154 = .ok (.getfield 18, 3) := by decide +kernel
theorem dX8_merge_157 : decode cX8_merge 157 = .ok (.iaload, 1) := by decide +kernel
theorem dX8_merge_158 : decode cX8_merge 158 = .ok (.if_icmp .ne 36, 3) := by decide +kernel
theorem dX8_merge_161 : decode cX8_merge 161 = .ok (.aload_n 0, 1) := by decide +kernel
theorem dX8_merge_162 : decode cX8_merge 162 = .ok (.getfield 15, 3) := by decide +kernel
theorem dX8_merge_165 : decode cX8_merge 165 = .ok (.aload_n 0, 1) := by decide +kernel
theorem dX8_merge_166 : decode cX8_merge 166 = .ok (.getfield 18, 3) := by decide +kernel
theorem dX8_merge_169 : decode cX8_merge 169 = .ok (.aload_n 0, 1) := by decide +kernel
theorem dX8_merge_170 : decode cX8_merge 170 = .ok (.getfield 15, 3) := by decide +kernel
theorem dX8_merge_173 : decode cX8_merge 173 = .ok (.aload_n 0, 1) := by decide +kernel
theorem dX8_merge_174 : decode cX8_merge 174 = .ok (.getfield 18, 3) := by decide +kernel
theorem dX8_merge_177 : decode cX8_merge 177 = .ok (.iaload, 1) := by decide +kernel
theorem dX8_merge_178 : decode cX8_merge 178 = .ok (.aload_n 1, 1) := by decide +kernel
theorem dX8_merge_179 : decode cX8_merge 179 = .ok (.getfield 15, 3) := by decide +kernel
theorem dX8_merge_182 : decode cX8_merge 182 = .ok (.iload 5, 2) := by decide +kernel
theorem dX8_merge_184 : decode cX8_merge 184 = .ok (.iaload, 1) := by decide +kernel
theorem dX8_merge_185 : decode cX8_merge 185 = .ok (.iload_n 3, 1) := by decide +kernel
theorem dX8_merge_186 : decode cX8_merge 186 = .ok (.iadd, 1) := by decide +kernel
theorem dX8_merge_187 : decode cX8_merge 187 = .ok (.invokestatic 29, 3) := by decide +kernel
theorem dX8_merge_190 : decode cX8_merge 190 = .ok (.iastore, 1) := by decide +kernel
theorem dX8_merge_191 : decode cX8_merge 191 = .ok (.iinc 5 1, 3) := by decide +kernel
theorem dX8_merge_194 : decode cX8_merge 194 = .ok (.aload_n 0, 1) := by decide +kernel
theorem dX8_merge_195 : decode cX8_merge 195 = .ok (.dup, 1) := by decide +kernel
theorem dX8_merge_196 : decode cX8_merge 196 = .ok (.getfield 18, 3) := by decide +kernel
theorem dX8_merge_199 : decode cX8_merge 199 = .ok (.iconst 1, 1) := by decide +kernel
theorem dX8_merge_200 : decode cX8_merge 200 = .ok (.iadd, 1) := by decide +kernel
theorem dX8_merge_201 : decode cX8_merge 201 = .ok (.putfield 18, 3) := by decide +kernel
theorem dX8_merge_204 : decode cX8_merge 204 = .ok (.goto (-193), 3) := by decide +kernel
theorem dX8_merge_207 : decode cX8_merge 207 = .ok (.return_, 1) := by decide +kernel
theorem dX8_cheapestWith_0 : decode cX8_cheapestWith 0 = .ok (.iconst (-1), 1) := by decide +kernel
theorem dX8_cheapestWith_1 : decode cX8_cheapestWith 1 = .ok (.istore_n 3, 1) := by decide +kernel
theorem dX8_cheapestWith_2 : decode cX8_cheapestWith 2 = .ok (.iconst 0, 1) := by decide +kernel
theorem dX8_cheapestWith_3 : decode cX8_cheapestWith 3 = .ok (.istore 4, 2) := by decide +kernel
theorem dX8_cheapestWith_5 : decode cX8_cheapestWith 5 = .ok (.aload_n 1, 1) := by decide +kernel
theorem dX8_cheapestWith_6 : decode cX8_cheapestWith 6 = .ok (.getfield 18, 3) := by decide +kernel
theorem dX8_cheapestWith_9 : decode cX8_cheapestWith 9 = .ok (.iconst 1, 1) := by decide +kernel
theorem dX8_cheapestWith_10 : decode cX8_cheapestWith 10 = .ok (.isub, 1) := by decide +kernel
theorem dX8_cheapestWith_11 : decode cX8_cheapestWith 11 = .ok (.istore 5, 2) := by decide +kernel
theorem dX8_cheapestWith_13 : decode cX8_cheapestWith 13 = .ok (.iload 4, 2) := by decide +kernel
theorem dX8_cheapestWith_15 : decode cX8_cheapestWith 15 = .ok (.aload_n 0, 1) := by decide +kernel
theorem dX8_cheapestWith_16 : decode cX8_cheapestWith 16 = .ok (.getfield 18, 3) := by decide +kernel
theorem dX8_cheapestWith_19 : decode cX8_cheapestWith 19 = .ok (.if_icmp .ge 83, 3) := by decide +kernel
theorem dX8_cheapestWith_22 : decode cX8_cheapestWith 22 = .ok (.iload 5, 2) := by decide +kernel
theorem dX8_cheapestWith_24 : decode cX8_cheapestWith 24 = .ok (.ifCond .lt 78, 3) := by decide +kernel
theorem dX8_cheapestWith_27 : decode cX8_cheapestWith 27 = .ok (.aload_n 0, 1) := by decide +kernel
theorem dX8_cheapestWith_28 : decode cX8_cheapestWith 28 = .ok (.getfield 11, 3) := by decide +kernel
theorem dX8_cheapestWith_31 : decode cX8_cheapestWith 31 = .ok (.iload 4, 2) := by decide +kernel
theorem dX8_cheapestWith_33 : decode cX8_cheapestWith 33 = .ok (.iaload, 1) := by decide +kernel
theorem dX8_cheapestWith_34 : decode cX8_cheapestWith 34 = .ok (.aload_n 1, 1) := by decide +kernel
theorem dX8_cheapestWith_35 : decode cX8_cheapestWith 35 = .ok (.getfield 11, 3) := by decide +kernel
theorem dX8_cheapestWith_38 : decode cX8_cheapestWith 38 = .ok (.iload 5, 2) := by decide +kernel
theorem dX8_cheapestWith_40 : decode cX8_cheapestWith 40 = .ok (.iaload, 1) := by decide +kernel
theorem dX8_cheapestWith_41 : decode cX8_cheapestWith 41 = .ok (.iadd, 1) := by decide +kernel
theorem dX8_cheapestWith_42 : decode cX8_cheapestWith 42 = .ok (.istore 6, 2) := by decide +kernel
theorem dX8_cheapestWith_44 : decode cX8_cheapestWith 44 = .ok (.iload 6, 2) := by decide +kernel
theorem dX8_cheapestWith_46 : decode cX8_cheapestWith 46 = .ok (.iload_n 2, 1) := by decide +kernel
theorem dX8_cheapestWith_47 : decode cX8_cheapestWith 47 = .ok (.if_icmp .ne 37, 3) := by decide +kernel
theorem dX8_cheapestWith_50 : decode cX8_cheapestWith 50 = .ok (.aload_n 0, 1) := by decide +kernel
theorem dX8_cheapestWith_51 : decode cX8_cheapestWith 51 = .ok (.getfield 15, 3) := by decide +kernel
theorem dX8_cheapestWith_54 : decode cX8_cheapestWith 54 = .ok (.iload 4, 2) := by decide +kernel
theorem dX8_cheapestWith_56 : decode cX8_cheapestWith 56 = .ok (.iaload, 1) := by decide +kernel
theorem dX8_cheapestWith_57 : decode cX8_cheapestWith 57 = .ok (.aload_n 1, 1) := by decide +kernel
theorem dX8_cheapestWith_58 : decode cX8_cheapestWith 58 = .ok (.getfield 15, 3) := by decide +kernel
theorem dX8_cheapestWith_61 : decode cX8_cheapestWith 61 = .ok (.iload 5, 2) := by decide +kernel
theorem dX8_cheapestWith_63 : decode cX8_cheapestWith 63 = .ok (.iaload, 1) := by decide +kernel
theorem dX8_cheapestWith_64 : decode cX8_cheapestWith 64 = .ok (.iadd, 1) := by decide +kernel
theorem dX8_cheapestWith_65 : decode cX8_cheapestWith 65 = .ok (.istore 7, 2) := by decide +kernel
theorem dX8_cheapestWith_67 : decode cX8_cheapestWith 67 = .ok (.iload_n 3, 1) := by decide +kernel
theorem dX8_cheapestWith_68 : decode cX8_cheapestWith 68 = .ok (.iconst (-1), 1) := by decide +kernel
theorem dX8_cheapestWith_69 : decode cX8_cheapestWith 69 = .ok (.if_icmp .ne 8, 3) := by decide +kernel
theorem dX8_cheapestWith_72 : decode cX8_cheapestWith 72 = .ok (.iload 7, 2) := by decide +kernel
theorem dX8_cheapestWith_74 : decode cX8_cheapestWith 74 = .ok (.goto 9, 3) := by decide +kernel
theorem dX8_cheapestWith_77 : decode cX8_cheapestWith 77 = .ok (.iload_n 3, 1) := by decide +kernel
theorem dX8_cheapestWith_78 : decode cX8_cheapestWith 78 = .ok (.iload 7, 2) := by decide +kernel
theorem dX8_cheapestWith_80 : decode cX8_cheapestWith 80 = .ok (.invokestatic 29, 3) := by decide +kernel
theorem dX8_cheapestWith_83 : decode cX8_cheapestWith 83 = .ok (.istore_n 3, 1) := by decide +kernel
theorem dX8_cheapestWith_84 : decode cX8_cheapestWith 84 = .ok (.iload 6, 2) := by decide +kernel
theorem dX8_cheapestWith_86 : decode cX8_cheapestWith 86 = .ok (.iload_n 2, 1) := by decide +kernel
theorem dX8_cheapestWith_87 : decode cX8_cheapestWith 87 = .ok (.if_icmp .gt 9, 3) := by decide +kernel
theorem dX8_cheapestWith_90 : decode cX8_cheapestWith 90 = .ok (.iinc 4 1, 3) := by decide +kernel
theorem dX8_cheapestWith_93 : decode cX8_cheapestWith 93 = .ok (.goto 6, 3) := by decide +kernel
theorem dX8_cheapestWith_96 : decode cX8_cheapestWith 96 = .ok (.iinc 5 (-1), 3) := by decide +kernel
theorem dX8_cheapestWith_99 : decode cX8_cheapestWith 99 = .ok (.goto (-86), 3) := by decide +kernel
theorem dX8_cheapestWith_102 : decode cX8_cheapestWith 102 = .ok (.iload_n 3, 1) := by decide +kernel
theorem dX8_cheapestWith_103 : decode cX8_cheapestWith 103 = .ok (.ireturn, 1) := by decide +kernel
theorem dJ9_abs_0f7a4_0 : decode cJ9_abs_0f7a4 0 = .ok (.iload_n 0, 1) := by decide +kernel
theorem dJ9_abs_0f7a4_1 : decode cJ9_abs_0f7a4 1 = .ok (.ifCond .ge 8, 3) := by decide +kernel
theorem dJ9_abs_0f7a4_4 : decode cJ9_abs_0f7a4 4 = .ok (.iload_n 0, 1) := by decide +kernel
theorem dJ9_abs_0f7a4_5 : decode cJ9_abs_0f7a4 5 = .ok (.ineg, 1) := by decide +kernel
theorem dJ9_abs_0f7a4_6 : decode cJ9_abs_0f7a4 6 = .ok (.goto 4, 3) := by decide +kernel
theorem dJ9_abs_0f7a4_9 : decode cJ9_abs_0f7a4 9 = .ok (.iload_n 0, 1) := by decide +kernel
theorem dJ9_abs_0f7a4_10 : decode cJ9_abs_0f7a4 10 = .ok (.ireturn, 1) := by decide +kernel
theorem dJ9_max_7cf53_0 : decode cJ9_max_7cf53 0 = .ok (.iload_n 0, 1) := by decide +kernel
theorem dJ9_max_7cf53_1 : decode cJ9_max_7cf53 1 = .ok (.iload_n 1, 1) := by decide +kernel
theorem dJ9_max_7cf53_2 : decode cJ9_max_7cf53 2 = .ok (.if_icmp .lt 7, 3) := by decide +kernel
theorem dJ9_max_7cf53_5 : decode cJ9_max_7cf53 5 = .ok (.iload_n 0, 1) := by decide +kernel
theorem dJ9_max_7cf53_6 : decode cJ9_max_7cf53 6 = .ok (.goto 4, 3) := by decide +kernel
theorem dJ9_max_7cf53_9 : decode cJ9_max_7cf53 9 = .ok (.iload_n 1, 1) := by decide +kernel
theorem dJ9_max_7cf53_10 : decode cJ9_max_7cf53 10 = .ok (.ireturn, 1) := by decide +kernel
theorem dJ9_min_7cf53_0 : decode cJ9_min_7cf53 0 = .ok (.iload_n 0, 1) := by decide +kernel
theorem dJ9_min_7cf53_1 : decode cJ9_min_7cf53 1 = .ok (.iload_n 1, 1) := by decide +kernel
theorem dJ9_min_7cf53_2 : decode cJ9_min_7cf53 2 = .ok (.if_icmp .gt 7, 3) := by decide +kernel
theorem dJ9_min_7cf53_5 : decode cJ9_min_7cf53 5 = .ok (.iload_n 0, 1) := by decide +kernel
theorem dJ9_min_7cf53_6 : decode cJ9_min_7cf53 6 = .ok (.goto 4, 3) := by decide +kernel
theorem dJ9_min_7cf53_9 : decode cJ9_min_7cf53 9 = .ok (.iload_n 1, 1) := by decide +kernel
theorem dJ9_min_7cf53_10 : decode cJ9_min_7cf53 10 = .ok (.ireturn, 1) := by decide +kernel
theorem dJ7_fill_53178_0 : decode cJ7_fill_53178 0 = .ok (.iconst 0, 1) := by decide +kernel
theorem dJ7_fill_53178_1 : decode cJ7_fill_53178 1 = .ok (.istore_n 2, 1) := by decide +kernel
theorem dJ7_fill_53178_2 : decode cJ7_fill_53178 2 = .ok (.aload_n 0, 1) := by decide +kernel
theorem dJ7_fill_53178_3 : decode cJ7_fill_53178 3 = .ok (.arraylength, 1) := by decide +kernel
theorem dJ7_fill_53178_4 : decode cJ7_fill_53178 4 = .ok (.istore_n 3, 1) := by decide +kernel
theorem dJ7_fill_53178_5 : decode cJ7_fill_53178 5 = .ok (.iload_n 2, 1) := by decide +kernel
theorem dJ7_fill_53178_6 : decode cJ7_fill_53178 6 = .ok (.iload_n 3, 1) := by decide +kernel
theorem dJ7_fill_53178_7 : decode cJ7_fill_53178 7 = .ok (.if_icmp .ge 13, 3) := by decide +kernel
theorem dJ7_fill_53178_10 : decode cJ7_fill_53178 10 = .ok (.aload_n 0, 1) := by decide +kernel
theorem dJ7_fill_53178_11 : decode cJ7_fill_53178 11 = .ok (.iload_n 2, 1) := by decide +kernel
theorem dJ7_fill_53178_12 : decode cJ7_fill_53178 12 = .ok (.iload_n 1, 1) := by decide +kernel
theorem dJ7_fill_53178_13 : decode cJ7_fill_53178 13 = .ok (.iastore, 1) := by decide +kernel
theorem dJ7_fill_53178_14 : decode cJ7_fill_53178 14 = .ok (.iinc 2 1, 3) := by decide +kernel
theorem dJ7_fill_53178_17 : decode cJ7_fill_53178 17 = .ok (.goto (-12), 3) := by decide +kernel
theorem dJ7_fill_53178_20 : decode cJ7_fill_53178 20 = .ok (.return_, 1) := by decide +kernel
