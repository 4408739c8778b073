theorem dX9_init_0 : decode cX9_init 0 = .ok (.aload_n 0, 1) := by decide +kernel
theorem dX9_init_1 : decode cX9_init 1 = .ok (.invokespecial 1, 3) := by decide +kernel
theorem dX9_init_4 : decode cX9_init 4 = .ok (.aload_n 0, 1) := by decide +kernel
theorem dX9_init_5 : decode cX9_init 5 = .ok (.iconst 2, 1) := by decide +kernel
theorem dX9_init_6 : decode cX9_init 6 = .ok (.anewarray 7, 3) := by decide +kernel
theorem dX9_init_9 : decode cX9_init 9 = .ok (.dup, 1) := by decide +kernel
theorem dX9_init_10 : decode cX9_init 10 = .ok (.iconst 0, 1) := by decide +kernel
theorem dX9_init_11 : decode cX9_init 11 = .ok (.new 7, 3) := by decide +kernel
theorem dX9_init_14 : decode cX9_init 14 = .ok (.dup, 1) := by decide +kernel
theorem dX9_init_15 : decode cX9_init 15 = .ok (.iconst 0, 1) := by decide +kernel
theorem dX9_init_16 : decode cX9_init 16 = .ok (.invokespecial 9, 3) := by decide +kernel
theorem dX9_init_19 : decode cX9_init 19 = .ok (.aastore, 1) := by decide +kernel
theorem dX9_init_20 : decode cX9_init 20 = .ok (.dup, 1) := by decide +kernel
theorem dX9_init_21 : decode cX9_init 21 = .ok (.iconst 1, 1) := by decide +kernel
theorem dX9_init_22 : decode cX9_init 22 = .ok (.new 7, 3) := by decide +kernel
theorem dX9_init_25 : decode cX9_init 25 = .ok (.dup, 1) := by decide +kernel
theorem dX9_init_26 : decode cX9_init 26 = .ok (.iconst 1, 1) := by decide +kernel
theorem dX9_init_27 : decode cX9_init 27 = .ok (.invokespecial 9, 3) := by decide +kernel
theorem dX9_init_30 : decode cX9_init 30 = .ok (.aastore, 1) := by decide +kernel
theorem dX9_init_31 : decode cX9_init 31 = .ok (.putfield 12, 3) := by decide +kernel
theorem dX9_init_34 : decode cX9_init 34 = .ok (.aload_n 0, 1) := by decide +kernel
theorem dX9_init_35 : decode cX9_init 35 = .ok (.sipush 200, 3) := by decide +kernel
theorem dX9_init_38 : decode cX9_init 38 = .ok (.anewarray 18, 3) := by decide +kernel
theorem dX9_init_41 : decode cX9_init 41 = .ok (.putfield 20, 3) := by decide +kernel
theorem dX9_init_44 : decode cX9_init 44 = .ok (.aload_n 0, 1) := by decide +kernel
theorem dX9_init_45 : decode cX9_init 45 = .ok (.new 24, 3) := by decide +kernel
theorem dX9_init_48 : decode cX9_init 48 = .ok (.dup, 1) := by decide +kernel
theorem dX9_init_49 : decode cX9_init 49 = .ok (.invokespecial 26, 3) := by decide +kernel
theorem dX9_init_52 : decode cX9_init 52 = .ok (.putfield 27, 3) := by decide +kernel
theorem dX9_init_55 : decode cX9_init 55 = .ok (.aload_n 0, 1) := by decide +kernel
theorem dX9_init_56 : decode cX9_init 56 = .ok (.new 31, 3) := by decide +kernel
theorem dX9_init_59 : decode cX9_init 59 = .ok (.dup, 1) := by decide +kernel
theorem dX9_init_60 : decode cX9_init 60 = .ok (.invokespecial 33, 3) := by decide +kernel
theorem dX9_init_63 : decode cX9_init 63 = .ok (.putfield 34, 3) := by decide +kernel
theorem dX9_init_66 : decode cX9_init 66 = .ok (.aload_n 0, 1) := by decide +kernel
theorem dX9_init_67 : decode cX9_init 67 = .ok (.new 38, 3) := by decide +kernel
theorem dX9_init_70 : decode cX9_init 70 = .ok (.dup, 1) := by decide +kernel
theorem dX9_init_71 : decode cX9_init 71 = .ok (.invokespecial 40, 3) := by decide +kernel
theorem dX9_init_74 : decode cX9_init 74 = .ok (.putfield 41, 3) := by decide +kernel
theorem dX9_init_77 : decode cX9_init 77 = .ok (.aload_n 0, 1) := by decide +kernel
theorem dX9_init_78 : decode cX9_init 78 = .ok (.new 45, 3) := by decide +kernel
theorem dX9_init_81 : decode cX9_init 81 = .ok (.dup, 1) := by decide +kernel
theorem dX9_init_82 : decode cX9_init 82 = .ok (.invokespecial 47, 3) := by decide +kernel
theorem dX9_init_85 : decode cX9_init 85 = .ok (.putfield 48, 3) := by decide +kernel
theorem dX9_init_88 : decode cX9_init 88 = .ok (.aload_n 0, 1) := by decide +kernel
theorem dX9_init_89 : decode cX9_init 89 = .ok (.iconst 0, 1) := by decide +kernel
theorem dX9_init_90 : decode cX9_init 90 = .ok (.putfield 52, 3) := by decide +kernel
theorem dX9_init_93 : decode cX9_init 93 = .ok (.aload_n 0, 1) := by decide +kernel
theorem dX9_init_94 : decode cX9_init 94 = .ok (.iconst 0, 1) := by decide +kernel
theorem dX9_init_95 : decode cX9_init 95 = .ok (.putfield 56, 3) := by decide +kernel
theorem dX9_init_98 : decode cX9_init 98 = .ok (.aload_n 0, 1) := by decide +kernel
theorem dX9_init_99 : decode cX9_init 99 = .ok (.iconst 5, 1) := by decide +kernel
theorem dX9_init_100 : decode cX9_init 100 = .ok (.putfield 59, 3) := by decide +kernel
theorem dX9_init_103 : decode cX9_init 103 = .ok (.aload_n 0, 1) := by decide +kernel
theorem dX9_init_104 : decode cX9_init 104 = .ok (.iconst 0, 1) := by decide +kernel
theorem dX9_init_105 : decode cX9_init 105 = .ok (.putfield 62, 3) := by decide +kernel
theorem dX9_init_108 : decode cX9_init 108 = .ok (.aload_n 0, 1) := by decide +kernel
theorem dX9_init_109 : decode cX9_init 109 = .ok (.iconst 0, 1) := by decide +kernel
theorem dX9_init_110 : decode cX9_init 110 = .ok (.putfield 65, 3) := by decide +kernel
theorem dX9_init_113 : decode cX9_init 113 = .ok (.iconst 0, 1) := by decide +kernel
theorem dX9_init_114 : decode cX9_init 114 = .ok (.istore_n 1, 1) := by decide +kernel
theorem dX9_init_115 : decode cX9_init 115 = .ok (.iload_n 1, 1) := by decide +kernel
theorem dX9_init_116 : decode cX9_init 116 = .ok (.sipush 200, 3) := by decide +kernel
theorem dX9_init_119 : decode cX9_init 119 = .ok (.if_icmp .ge 22, 3) := by decide +kernel
theorem dX9_init_122 : decode cX9_init 122 = .ok (.aload_n 0, 1) := by decide +kernel
theorem dX9_init_123 : decode cX9_init 123 = .ok (.getfield 20, 3) := by decide +kernel
theorem dX9_init_126 : decode cX9_init 126 = .ok (.iload_n 1, 1) := by decide +kernel
theorem dX9_init_127 : decode cX9_init 127 = .ok (.new 18, 3) := by decide +kernel
theorem dX9_init_130 : decode cX9_init 130 = .ok (.dup, 1) := by decide +kernel
theorem dX9_init_131 : decode cX9_init 131 = .ok (.invokespecial 68, 3) := by decide +kernel
theorem dX9_init_134 : decode cX9_init 134 = .ok (.aastore, 1) := by decide +kernel
theorem dX9_init_135 : decode cX9_init 135 = .ok (.iinc 1 1, 3) := by decide +kernel
theorem dX9_init_138 : decode cX9_init 138 = .ok (.goto (-23), 3) := by decide +kernel
theorem dX9_init_141 : decode cX9_init 141 = .ok (.return_, 1) := by decide +kernel
theorem dX9_line_0 : decode cX9_line 0 = .ok (.iload_n 1, 1) := by decide +kernel
theorem dX9_line_1 : decode cX9_line 1 = .ok (.invokestatic 69, 3) := by decide +kernel
theorem dX9_line_4 : decode cX9_line 4 = .ok (.ifCond .eq 39, 3) := by decide +kernel
theorem dX9_line_7 : decode cX9_line 7 = .ok (.iload_n 2, 1) := by decide +kernel
theorem dX9_line_8 : decode cX9_line 8 = .ok (.ifCond .eq 35, 3) := by decide +kernel
theorem dX9_line_11 : decode cX9_line 11 = .ok (.iload_n 2, 1) := by decide +kernel
theorem dX9_line_12 : decode cX9_line 12 = .ok (.ldc 73, 2) := by decide +kernel
theorem dX9_line_14 : decode cX9_line 14 = .ok (.ldc 74, 2) := by decide +kernel
theorem dX9_line_16 : decode cX9_line 16 = .ok (.invokestatic 75, 3) := by decide +kernel
theorem dX9_line_19 : decode cX9_line 19 = .ok (.ifCond .eq 24, 3) := by decide +kernel
theorem dX9_line_22 : decode cX9_line 22 = .ok (.iload_n 3, 1) := by decide +kernel
theorem dX9_line_23 : decode cX9_line 23 = .ok (.iconst 0, 1) := by decide +kernel
theorem dX9_line_24 : decode cX9_line 24 = .ok (.ldc 79, 2) := by decide +kernel
theorem dX9_line_26 : decode cX9_line 26 = .ok (.invokestatic 75, 3) := by decide +kernel
theorem dX9_line_29 : decode cX9_line 29 = .ok (.ifCond .eq 14, 3) := by decide +kernel
theorem dX9_line_32 : decode cX9_line 32 = .ok (.iload 4, 2) := by decide +kernel
theorem dX9_line_34 : decode cX9_line 34 = .ok (.iconst 0, 1) := by decide +kernel
theorem dX9_line_35 : decode cX9_line 35 = .ok (.bipush 99, 2) := by decide +kernel
theorem dX9_line_37 : decode cX9_line 37 = .ok (.invokestatic 75, 3) := by decide +kernel
theorem dX9_line_40 : decode cX9_line 40 = .ok (.ifCond .ne 5, 3) := by decide +kernel
theorem dX9_line_43 : decode cX9_line 43 = .ok (.iconst (-1), 1) := by decide +kernel
theorem dX9_line_44 : decode cX9_line 44 = .ok (.ireturn, 1) := by decide +kernel
theorem dX9_line_45 : decode cX9_line 45 = .ok (.aload_n 0, 1) := by decide +kernel
theorem dX9_line_46 : decode cX9_line 46 = .ok (.getfield 12, 3) := by decide +kernel
theorem dX9_line_49 : decode cX9_line 49 = .ok (.iload_n 1, 1) := by decide +kernel
theorem dX9_line_50 : decode cX9_line 50 = .ok (.aaload, 1) := by decide +kernel
theorem dX9_line_51 : decode cX9_line 51 = .ok (.astore 5, 2) := by decide +kernel
theorem dX9_line_53 : decode cX9_line 53 = .ok (.aload 5, 2) := by decide +kernel
theorem dX9_line_55 : decode cX9_line 55 = .ok (.getfield 80, 3) := by decide +kernel
theorem dX9_line_58 : decode cX9_line 58 = .ok (.bipush 80, 2) := by decide +kernel
theorem dX9_line_60 : decode cX9_line 60 = .ok (.if_icmp .lt 6, 3) := by decide +kernel
theorem dX9_line_63 : decode cX9_line 63 = .ok (.bipush (-5), 2) := by decide +kernel
theorem dX9_line_65 : decode cX9_line 65 = .ok (.ireturn, 1) := by decide +kernel
theorem dX9_line_66 : decode cX9_line 66 = .ok (.aload 5, 2) := by decide +kernel
theorem dX9_line_68 : decode cX9_line 68 = .ok (.getfield 83, 3) := by decide +kernel
theorem dX9_line_71 : decode cX9_line 71 = .ok (.aload 5, 2) := by decide +kernel
theorem dX9_line_73 : decode cX9_line 73 = .ok (.getfield 80, 3) := by decide +kernel
theorem dX9_line_76 : decode cX9_line 76 = .ok (.aaload, 1) := by decide +kernel
theorem dX9_line_77 : decode cX9_line 77 = .ok (.iload_n 2, 1) := by decide +kernel
theorem dX9_line_78 : decode cX9_line 78 = .ok (.iload_n 3, 1) := by decide +kernel
theorem dX9_line_79 : decode cX9_line 79 = .ok (.sipush 10000, 3) := by decide +kernel
theorem dX9_line_82 : decode cX9_line 82 = .ok (.idiv, 1) := by decide +kernel
theorem dX9_line_83 : decode cX9_line 83 = .ok (.iload_n 3, 1) := by decide +kernel
theorem dX9_line_84 : decode cX9_line 84 = .ok (.sipush 10000, 3) := by decide +kernel
theorem dX9_line_87 : decode cX9_line 87 = .ok (.irem, 1) := by decide +kernel
theorem dX9_line_88 : decode cX9_line 88 = .ok (.iload 4, 2) := by decide +kernel
theorem dX9_line_90 : decode cX9_line 90 = .ok (.aload_n 0, 1) := by decide +kernel
theorem dX9_line_91 : decode cX9_line 91 = .ok (.getfield 56, 3) := by decide +kernel
theorem dX9_line_94 : decode cX9_line 94 = .ok (.invokevirtual 87, 3) := by decide +kernel
theorem dX9_line_97 : decode cX9_line 97 = .ok (.aload 5, 2) := by decide +kernel
theorem dX9_line_99 : decode cX9_line 99 = .ok (.dup, 1) := by decide +kernel
theorem dX9_line_100 : decode cX9_line 100 = .ok (.getfield 80, 3) := by decide +kernel
theorem dX9_line_103 : decode cX9_line 103 = .ok (.iconst 1, 1) := by decide +kernel
theorem dX9_line_104 : decode cX9_line 104 = .ok (.iadd, 1) := by decide +kernel
theorem dX9_line_105 : decode cX9_line 105 = .ok (.putfield 80, 3) := by decide +kernel
theorem dX9_line_108 : decode cX9_line 108 = .ok (.aload_n 0, 1) := by decide +kernel
theorem dX9_line_109 : decode cX9_line 109 = .ok (.iconst 0, 1) := by decide +kernel
theorem dX9_line_110 : decode cX9_line 110 = .ok (.iload_n 1, 1) := by decide +kernel
theorem dX9_line_111 : decode cX9_line 111 = .ok (.iconst 0, 1) := by decide +kernel
theorem dX9_line_112 : decode cX9_line 112 = .ok (.invokevirtual 93, 3) := by decide +kernel
theorem dX9_line_115 : decode cX9_line 115 = .ok (.aload 5, 2) := by decide +kernel
theorem dX9_line_117 : decode cX9_line 117 = .ok (.getfield 80, 3) := by decide +kernel
theorem dX9_line_120 : decode cX9_line 120 = .ok (.iconst 1, 1) := by decide +kernel
theorem dX9_line_121 : decode cX9_line 121 = .ok (.isub, 1) := by decide +kernel
theorem dX9_line_122 : decode cX9_line 122 = .ok (.ireturn, 1) := by decide +kernel
theorem dX9_today_0 : decode cX9_today 0 = .ok (.iload_n 1, 1) := by decide +kernel
theorem dX9_today_1 : decode cX9_today 1 = .ok (.aload_n 0, 1) := by decide +kernel
theorem dX9_today_2 : decode cX9_today 2 = .ok (.getfield 56, 3) := by decide +kernel
theorem dX9_today_5 : decode cX9_today 5 = .ok (.ldc 97, 2) := by decide +kernel
theorem dX9_today_7 : decode cX9_today 7 = .ok (.invokestatic 75, 3) := by decide +kernel
theorem dX9_today_10 : decode cX9_today 10 = .ok (.ifCond .ne 5, 3) := by decide +kernel
theorem dX9_today_13 : decode cX9_today 13 = .ok (.iconst (-1), 1) := by decide +kernel
theorem dX9_today_14 : decode cX9_today 14 = .ok (.ireturn, 1) := by decide +kernel
theorem dX9_today_15 : decode cX9_today 15 = .ok (.aload_n 0, 1) := by decide +kernel
theorem dX9_today_16 : decode cX9_today 16 = .ok (.getfield 56, 3) := by decide +kernel
theorem dX9_today_19 : decode cX9_today 19 = .ok (.istore_n 2, 1) := by decide +kernel
theorem dX9_today_20 : decode cX9_today 20 = .ok (.iload_n 1, 1) := by decide +kernel
theorem dX9_today_21 : decode cX9_today 21 = .ok (.iload_n 2, 1) := by decide +kernel
theorem dX9_today_22 : decode cX9_today 22 = .ok (.if_icmp .eq 12, 3) := by decide +kernel
theorem dX9_today_25 : decode cX9_today 25 = .ok (.aload_n 0, 1) := by decide +kernel
theorem dX9_today_26 : decode cX9_today 26 = .ok (.iload_n 1, 1) := by decide +kernel
theorem dX9_today_27 : decode cX9_today 27 = .ok (.putfield 56, 3) := by decide +kernel
theorem dX9_today_30 : decode cX9_today 30 = .ok (.aload_n 0, 1) := by decide +kernel
theorem dX9_today_31 : decode cX9_today 31 = .ok (.invokevirtual 98, 3) := by decide +kernel
theorem dX9_today_34 : decode cX9_today 34 = .ok (.iload_n 2, 1) := by decide +kernel
theorem dX9_today_35 : decode cX9_today 35 = .ok (.ireturn, 1) := by decide +kernel
theorem dX9_terms_0 : decode cX9_terms 0 = .ok (.iload_n 1, 1) := by decide +kernel
theorem dX9_terms_1 : decode cX9_terms 1 = .ok (.iconst 0, 1) := by decide +kernel
theorem dX9_terms_2 : decode cX9_terms 2 = .ok (.bipush 99, 2) := by decide +kernel
theorem dX9_terms_4 : decode cX9_terms 4 = .ok (.invokestatic 75, 3) := by decide +kernel
theorem dX9_terms_7 : decode cX9_terms 7 = .ok (.ifCond .eq 14, 3) := by decide +kernel
theorem dX9_terms_10 : decode cX9_terms 10 = .ok (.iload_n 2, 1) := by decide +kernel
theorem dX9_terms_11 : decode cX9_terms 11 = .ok (.iconst 0, 1) := by decide +kernel
theorem dX9_terms_12 : decode cX9_terms 12 = .ok (.sipush 10000, 3) := by decide +kernel
theorem dX9_terms_15 : decode cX9_terms 15 = .ok (.invokestatic 75, 3) := by decide +kernel
theorem dX9_terms_18 : decode cX9_terms 18 = .ok (.ifCond .ne 5, 3) := by decide +kernel
theorem dX9_terms_21 : decode cX9_terms 21 = .ok (.iconst (-1), 1) := by decide +kernel
theorem dX9_terms_22 : decode cX9_terms 22 = .ok (.ireturn, 1) := by decide +kernel
theorem dX9_terms_23 : decode cX9_terms 23 = .ok (.iload_n 1, 1) := by decide +kernel
theorem dX9_terms_24 : decode cX9_terms 24 = .ok (.aload_n 0, 1) := by decide +kernel
theorem dX9_terms_25 : decode cX9_terms 25 = .ok (.getfield 59, 3) := by decide +kernel
theorem dX9_terms_28 : decode cX9_terms 28 = .ok (.if_icmp .ne 11, 3) := by decide +kernel
theorem dX9_terms_31 : decode cX9_terms 31 = .ok (.iload_n 2, 1) := by decide +kernel
theorem dX9_terms_32 : decode cX9_terms 32 = .ok (.aload_n 0, 1) := by decide +kernel
theorem dX9_terms_33 : decode cX9_terms 33 = .ok (.getfield 62, 3) := by decide +kernel
theorem dX9_terms_36 : decode cX9_terms 36 = .ok (.if_icmp .eq 17, 3) := by decide +kernel
theorem dX9_terms_39 : decode cX9_terms 39 = .ok (.aload_n 0, 1) := by decide +kernel
theorem dX9_terms_40 : decode cX9_terms 40 = .ok (.iload_n 1, 1) := by decide +kernel
theorem dX9_terms_41 : decode cX9_terms 41 = .ok (.putfield 59, 3) := by decide +kernel
theorem dX9_terms_44 : decode cX9_terms 44 = .ok (.aload_n 0, 1) := by decide +kernel
theorem dX9_terms_45 : decode cX9_terms 45 = .ok (.iload_n 2, 1) := by decide +kernel
theorem dX9_terms_46 : decode cX9_terms 46 = .ok (.putfield 62, 3) := by decide +kernel
theorem dX9_terms_49 : decode cX9_terms 49 = .ok (.aload_n 0, 1) := by decide +kernel
theorem dX9_terms_50 : decode cX9_terms 50 = .ok (.invokevirtual 98, 3) := by decide +kernel
theorem dX9_terms_53 : decode cX9_terms 53 = .ok (.iconst 1, 1) := by decide +kernel
theorem dX9_terms_54 : decode cX9_terms 54 = .ok (.ireturn, 1) := by decide +kernel
theorem dX9_told_0 : decode cX9_told 0 = .ok (.aload_n 0, 1) := by decide +kernel
theorem dX9_told_1 : decode cX9_told 1 = .ok (.iload_n 1, 1) := by decide +kernel
theorem dX9_told_2 : decode cX9_told 2 = .ok (.iload_n 2, 1) := by decide +kernel
theorem dX9_told_3 : decode cX9_told 3 = .ok (.invokevirtual 101, 3) := by decide +kernel
theorem dX9_told_6 : decode cX9_told 6 = .ok (.astore 4, 2) := by decide +kernel
theorem dX9_told_8 : decode cX9_told 8 = .ok (.aload 4, 2) := by decide +kernel
theorem dX9_told_10 : decode cX9_told 10 = .ok (.ifnonnull 6, 3) := by decide +kernel
theorem dX9_told_13 : decode cX9_told 13 = .ok (.ldc 105, 2) := by decide +kernel
theorem dX9_told_15 : decode cX9_told 15 = .ok (.ireturn, 1) := by decide +kernel
theorem dX9_told_16 : decode cX9_told 16 = .ok (.iload_n 3, 1) := by decide +kernel
theorem dX9_told_17 : decode cX9_told 17 = .ok (.tableswitch 102 0 6 #[43, 49, 55, 61, 67, 73, 79], 43) := by decide +kernel
theorem dX9_told_60 : decode cX9_told 60 = .ok (.aload 4, 2) := by decide +kernel
theorem dX9_told_62 : decode cX9_told 62 = .ok (.getfield 106, 3) := by decide +kernel
theorem dX9_told_65 : decode cX9_told 65 = .ok (.ireturn, 1) := by decide +kernel
theorem dX9_told_66 : decode cX9_told 66 = .ok (.aload 4, 2) := by decide +kernel
theorem dX9_told_68 : decode cX9_told 68 = .ok (.getfield 109, 3) := by decide +kernel
theorem dX9_told_71 : decode cX9_told 71 = .ok (.ireturn, 1) := by decide +kernel
theorem dX9_told_72 : decode cX9_told 72 = .ok (.aload 4, 2) := by decide +kernel
theorem dX9_told_74 : decode cX9_told 74 = .ok (.getfield 112, 3) := by decide +kernel
theorem dX9_told_77 : decode cX9_told 77 = .ok (.ireturn, 1) := by decide +kernel
theorem dX9_told_78 : decode cX9_told 78 = .ok (.aload 4, 2) := by decide +kernel
theorem dX9_told_80 : decode cX9_told 80 = .ok (.getfield 115, 3) := by decide +kernel
theorem dX9_told_83 : decode cX9_told 83 = .ok (.ireturn, 1) := by decide +kernel
theorem dX9_told_84 : decode cX9_told 84 = .ok (.aload 4, 2) := by decide +kernel
theorem dX9_told_86 : decode cX9_told 86 = .ok (.getfield 118, 3) := by decide +kernel
theorem dX9_told_89 : decode cX9_told 89 = .ok (.ireturn, 1) := by decide +kernel
theorem dX9_told_90 : decode cX9_told 90 = .ok (.aload 4, 2) := by decide +kernel
theorem dX9_told_92 : decode cX9_told 92 = .ok (.getfield 121, 3) := by decide +kernel
theorem dX9_told_95 : decode cX9_told 95 = .ok (.ireturn, 1) := by decide +kernel
theorem dX9_told_96 : decode cX9_told 96 = .ok (.aload 4, 2) := by decide +kernel
theorem dX9_told_98 : decode cX9_told 98 = .ok (.invokevirtual 124, 3) := by decide +kernel
theorem dX9_told_101 : decode cX9_told 101 = .ok (.ifCond .eq 16, 3) := by decide +kernel
theorem dX9_told_104 : decode cX9_told 104 = .ok (.aload_n 0, 1) := by decide +kernel
theorem dX9_told_105 : decode cX9_told 105 = .ok (.getfield 56, 3) := by decide +kernel
theorem dX9_told_108 : decode cX9_told 108 = .ok (.aload 4, 2) := by decide +kernel
theorem dX9_told_110 : decode cX9_told 110 = .ok (.getfield 118, 3) := by decide +kernel
theorem dX9_told_113 : decode cX9_told 113 = .ok (.isub, 1) := by decide +kernel
theorem dX9_told_114 : decode cX9_told 114 = .ok (.goto 4, 3) := by decide +kernel
theorem dX9_told_117 : decode cX9_told 117 = .ok (.iconst (-1), 1) := by decide +kernel
theorem dX9_told_118 : decode cX9_told 118 = .ok (.ireturn, 1) := by decide +kernel
theorem dX9_told_119 : decode cX9_told 119 = .ok (.ldc 105, 2) := by decide +kernel
theorem dX9_told_121 : decode cX9_told 121 = .ok (.ireturn, 1) := by decide +kernel
theorem dX9_fit_0 : decode cX9_fit 0 = .ok (.aload_n 0, 1) := by decide +kernel
theorem dX9_fit_1 : decode cX9_fit 1 = .ok (.iconst 0, 1) := by decide +kernel
theorem dX9_fit_2 : decode cX9_fit 2 = .ok (.iload_n 1, 1) := by decide +kernel
theorem dX9_fit_3 : decode cX9_fit 3 = .ok (.invokevirtual 101, 3) := by decide +kernel
theorem dX9_fit_6 : decode cX9_fit 6 = .ok (.astore_n 3, 1) := by decide +kernel
theorem dX9_fit_7 : decode cX9_fit 7 = .ok (.aload_n 0, 1) := by decide +kernel
theorem dX9_fit_8 : decode cX9_fit 8 = .ok (.iconst 1, 1) := by decide +kernel
theorem dX9_fit_9 : decode cX9_fit 9 = .ok (.iload_n 2, 1) := by decide +kernel
theorem dX9_fit_10 : decode cX9_fit 10 = .ok (.invokevirtual 101, 3) := by decide +kernel
theorem dX9_fit_13 : decode cX9_fit 13 = .ok (.astore 4, 2) := by decide +kernel
theorem dX9_fit_15 : decode cX9_fit 15 = .ok (.aload_n 3, 1) := by decide +kernel
theorem dX9_fit_16 : decode cX9_fit 16 = .ok (.ifnull 8, 3) := by decide +kernel
theorem dX9_fit_19 : decode cX9_fit 19 = .ok (.aload 4, 2) := by decide +kernel
theorem dX9_fit_21 : decode cX9_fit 21 = .ok (.ifnonnull 7, 3) := by decide +kernel
theorem dX9_fit_24 : decode cX9_fit 24 = .ok (.iconst (-1), 1) := by decide +kernel
theorem dX9_fit_25 : decode cX9_fit 25 = .ok (.goto 10, 3) := by decide +kernel
theorem dX9_fit_28 : decode cX9_fit 28 = .ok (.aload_n 0, 1) := by decide +kernel
theorem dX9_fit_29 : decode cX9_fit 29 = .ok (.aload_n 3, 1) := by decide +kernel
theorem dX9_fit_30 : decode cX9_fit 30 = .ok (.aload 4, 2) := by decide +kernel
theorem dX9_fit_32 : decode cX9_fit 32 = .ok (.invokevirtual 128, 3) := by decide +kernel
theorem dX9_fit_35 : decode cX9_fit 35 = .ok (.ireturn, 1) := by decide +kernel
theorem dX9_best_0 : decode cX9_best 0 = .ok (.aload_n 0, 1) := by decide +kernel
theorem dX9_best_1 : decode cX9_best 1 = .ok (.getfield 12, 3) := by decide +kernel
theorem dX9_best_4 : decode cX9_best 4 = .ok (.iconst 0, 1) := by decide +kernel
theorem dX9_best_5 : decode cX9_best 5 = .ok (.aaload, 1) := by decide +kernel
theorem dX9_best_6 : decode cX9_best 6 = .ok (.iconst 0, 1) := by decide +kernel
theorem dX9_best_7 : decode cX9_best 7 = .ok (.aload_n 0, 1) := by decide +kernel
theorem dX9_best_8 : decode cX9_best 8 = .ok (.getfield 56, 3) := by decide +kernel
theorem dX9_best_11 : decode cX9_best 11 = .ok (.invokevirtual 132, 3) := by decide +kernel
theorem dX9_best_14 : decode cX9_best 14 = .ok (.bipush 14, 2) := by decide +kernel
theorem dX9_best_16 : decode cX9_best 16 = .ok (.if_icmp .gt 22, 3) := by decide +kernel
theorem dX9_best_19 : decode cX9_best 19 = .ok (.aload_n 0, 1) := by decide +kernel
theorem dX9_best_20 : decode cX9_best 20 = .ok (.getfield 12, 3) := by decide +kernel
theorem dX9_best_23 : decode cX9_best 23 = .ok (.iconst 1, 1) := by decide +kernel
theorem dX9_best_24 : decode cX9_best 24 = .ok (.aaload, 1) := by decide +kernel
theorem dX9_best_25 : decode cX9_best 25 = .ok (.iconst 0, 1) := by decide +kernel
theorem dX9_best_26 : decode cX9_best 26 = .ok (.aload_n 0, 1) := by decide +kernel
theorem dX9_best_27 : decode cX9_best 27 = .ok (.getfield 56, 3) := by decide +kernel
theorem dX9_best_30 : decode cX9_best 30 = .ok (.invokevirtual 132, 3) := by decide +kernel
theorem dX9_best_33 : decode cX9_best 33 = .ok (.bipush 14, 2) := by decide +kernel
theorem dX9_best_35 : decode cX9_best 35 = .ok (.if_icmp .le 6, 3) := by decide +kernel
theorem dX9_best_38 : decode cX9_best 38 = .ok (.bipush (-4), 2) := by decide +kernel
theorem dX9_best_40 : decode cX9_best 40 = .ok (.ireturn, 1) := by decide +kernel
theorem dX9_best_41 : decode cX9_best 41 = .ok (.aload_n 0, 1) := by decide +kernel
theorem dX9_best_42 : decode cX9_best 42 = .ok (.getfield 34, 3) := by decide +kernel
theorem dX9_best_45 : decode cX9_best 45 = .ok (.aload_n 0, 1) := by decide +kernel
theorem dX9_best_46 : decode cX9_best 46 = .ok (.getfield 12, 3) := by decide +kernel
theorem dX9_best_49 : decode cX9_best 49 = .ok (.iconst 0, 1) := by decide +kernel
theorem dX9_best_50 : decode cX9_best 50 = .ok (.aaload, 1) := by decide +kernel
theorem dX9_best_51 : decode cX9_best 51 = .ok (.aload_n 0, 1) := by decide +kernel
theorem dX9_best_52 : decode cX9_best 52 = .ok (.getfield 12, 3) := by decide +kernel
theorem dX9_best_55 : decode cX9_best 55 = .ok (.iconst 1, 1) := by decide +kernel
theorem dX9_best_56 : decode cX9_best 56 = .ok (.aaload, 1) := by decide +kernel
theorem dX9_best_57 : decode cX9_best 57 = .ok (.invokevirtual 136, 3) := by decide +kernel
theorem dX9_best_60 : decode cX9_best 60 = .ok (.iconst 0, 1) := by decide +kernel
theorem dX9_best_61 : decode cX9_best 61 = .ok (.istore_n 1, 1) := by decide +kernel
theorem dX9_best_62 : decode cX9_best 62 = .ok (.iload_n 1, 1) := by decide +kernel
theorem dX9_best_63 : decode cX9_best 63 = .ok (.aload_n 0, 1) := by decide +kernel
theorem dX9_best_64 : decode cX9_best 64 = .ok (.getfield 34, 3) := by decide +kernel
theorem dX9_best_67 : decode cX9_best 67 = .ok (.getfield 140, 3) := by decide +kernel
theorem dX9_best_70 : decode cX9_best 70 = .ok (.if_icmp .ge 90, 3) := by decide +kernel
theorem dX9_best_73 : decode cX9_best 73 = .ok (.aload_n 0, 1) := by decide +kernel
theorem dX9_best_74 : decode cX9_best 74 = .ok (.getfield 12, 3) := by decide +kernel
theorem dX9_best_77 : decode cX9_best 77 = .ok (.iconst 0, 1) := by decide +kernel
theorem dX9_best_78 : decode cX9_best 78 = .ok (.aaload, 1) := by decide +kernel
theorem dX9_best_79 : decode cX9_best 79 = .ok (.getfield 83, 3) := by decide +kernel
theorem dX9_best_82 : decode cX9_best 82 = .ok (.aload_n 0, 1) := by decide +kernel
theorem dX9_best_83 : decode cX9_best 83 = .ok (.getfield 34, 3) := by decide +kernel
theorem dX9_best_86 : decode cX9_best 86 = .ok (.getfield 143, 3) := by decide +kernel
theorem dX9_best_89 : decode cX9_best 89 = .ok (.iload_n 1, 1) := by decide +kernel
theorem dX9_best_90 : decode cX9_best 90 = .ok (.iaload, 1) := by decide +kernel
theorem dX9_best_91 : decode cX9_best 91 = .ok (.aaload, 1) := by decide +kernel
theorem dX9_best_92 : decode cX9_best 92 = .ok (.astore_n 2, 1) := by decide +kernel
theorem dX9_best_93 : decode cX9_best 93 = .ok (.iconst 0, 1) := by decide +kernel
theorem dX9_best_94 : decode cX9_best 94 = .ok (.istore_n 3, 1) := by decide +kernel
theorem dX9_best_95 : decode cX9_best 95 = .ok (.iload_n 3, 1) := by decide +kernel
theorem dX9_best_96 : decode cX9_best 96 = .ok (.aload_n 0, 1) := by decide +kernel
theorem dX9_best_97 : decode cX9_best 97 = .ok (.getfield 34, 3) := by decide +kernel
theorem dX9_best_100 : decode cX9_best 100 = .ok (.getfield 147, 3) := by decide +kernel
theorem dX9_best_103 : decode cX9_best 103 = .ok (.if_icmp .ge 51, 3) := by decide +kernel
theorem dX9_best_106 : decode cX9_best 106 = .ok (.aload_n 0, 1) := by decide +kernel
theorem dX9_best_107 : decode cX9_best 107 = .ok (.getfield 12, 3) := by decide +kernel
theorem dX9_best_110 : decode cX9_best 110 = .ok (.iconst 1, 1) := by decide +kernel
theorem dX9_best_111 : decode cX9_best 111 = .ok (.aaload, 1) := by decide +kernel
theorem dX9_best_112 : decode cX9_best 112 = .ok (.getfield 83, 3) := by decide +kernel
theorem dX9_best_115 : decode cX9_best 115 = .ok (.aload_n 0, 1) := by decide +kernel
theorem dX9_best_116 : decode cX9_best 116 = .ok (.getfield 34, 3) := by decide +kernel
theorem dX9_best_119 : decode cX9_best 119 = .ok (.getfield 150, 3) := by decide +kernel
theorem dX9_best_122 : decode cX9_best 122 = .ok (.iload_n 3, 1) := by decide +kernel
theorem dX9_best_123 : decode cX9_best 123 = .ok (.iaload, 1) := by decide +kernel
theorem dX9_best_124 : decode cX9_best 124 = .ok (.aaload, 1) := by decide +kernel
theorem dX9_best_125 : decode cX9_best 125 = .ok (.astore 4, 2) := by decide +kernel
theorem dX9_best_127 : decode cX9_best 127 = .ok (.aload_n 0, 1) := by decide +kernel
theorem dX9_best_128 : decode cX9_best 128 = .ok (.getfield 34, 3) := by decide +kernel
theorem dX9_best_131 : decode cX9_best 131 = .ok (.getfield 153, 3) := by decide +kernel
theorem dX9_best_134 : decode cX9_best 134 = .ok (.getfield 157, 3) := by decide +kernel
theorem dX9_best_137 : decode cX9_best 137 = .ok (.iload_n 1, 1) := by decide +kernel
theorem dX9_best_138 : decode cX9_best 138 = .ok (.aaload, 1) := by decide +kernel
theorem dX9_best_139 : decode cX9_best 139 = .ok (.iload_n 3, 1) := by decide +kernel
theorem dX9_best_140 : decode cX9_best 140 = .ok (.aload_n 0, 1) := by decide +kernel
theorem dX9_best_141 : decode cX9_best 141 = .ok (.aload_n 2, 1) := by decide +kernel
theorem dX9_best_142 : decode cX9_best 142 = .ok (.aload 4, 2) := by decide +kernel
theorem dX9_best_144 : decode cX9_best 144 = .ok (.invokevirtual 128, 3) := by decide +kernel
theorem dX9_best_147 : decode cX9_best 147 = .ok (.iastore, 1) := by decide +kernel
theorem dX9_best_148 : decode cX9_best 148 = .ok (.iinc 3 1, 3) := by decide +kernel
theorem dX9_best_151 : decode cX9_best 151 = .ok (.goto (-56), 3) := by decide +kernel
theorem dX9_best_154 : decode cX9_best 154 = .ok (.iinc 1 1, 3) := by decide +kernel
theorem dX9_best_157 : decode cX9_best 157 = .ok (.goto (-95), 3) := by decide +kernel
theorem dX9_best_160 : decode cX9_best 160 = .ok (.aload_n 0, 1) := by decide +kernel
theorem dX9_best_161 : decode cX9_best 161 = .ok (.getfield 34, 3) := by decide +kernel
theorem dX9_best_164 : decode cX9_best 164 = .ok (.invokevirtual 163, 3) := by decide +kernel
theorem dX9_best_167 : decode cX9_best 167 = .ok (.aload_n 0, 1) := by decide +kernel
theorem dX9_best_168 : decode cX9_best 168 = .ok (.getfield 34, 3) := by decide +kernel
theorem dX9_best_171 : decode cX9_best 171 = .ok (.aload_n 0, 1) := by decide +kernel
theorem dX9_best_172 : decode cX9_best 172 = .ok (.getfield 65, 3) := by decide +kernel
theorem dX9_best_175 : decode cX9_best 175 = .ok (.putfield 166, 3) := by decide +kernel
theorem dX9_best_178 : decode cX9_best 178 = .ok (.aload_n 0, 1) := by decide +kernel
theorem dX9_best_179 : decode cX9_best 179 = .ok (.getfield 34, 3) := by decide +kernel
theorem dX9_best_182 : decode cX9_best 182 = .ok (.getfield 169, 3) := by decide +kernel
theorem dX9_best_185 : decode cX9_best 185 = .ok (.ireturn, 1) := by decide +kernel
theorem dX9_with_0 : decode cX9_with 0 = .ok (.aload_n 0, 1) := by decide +kernel
theorem dX9_with_1 : decode cX9_with 1 = .ok (.iload_n 1, 1) := by decide +kernel
theorem dX9_with_2 : decode cX9_with 2 = .ok (.invokevirtual 172, 3) := by decide +kernel
theorem dX9_with_5 : decode cX9_with 5 = .ok (.istore_n 2, 1) := by decide +kernel
theorem dX9_with_6 : decode cX9_with 6 = .ok (.iload_n 2, 1) := by decide +kernel
theorem dX9_with_7 : decode cX9_with 7 = .ok (.iconst (-1), 1) := by decide +kernel
theorem dX9_with_8 : decode cX9_with 8 = .ok (.if_icmp .eq 16, 3) := by decide +kernel
theorem dX9_with_11 : decode cX9_with 11 = .ok (.aload_n 0, 1) := by decide +kernel
theorem dX9_with_12 : decode cX9_with 12 = .ok (.getfield 34, 3) := by decide +kernel
theorem dX9_with_15 : decode cX9_with 15 = .ok (.getfield 176, 3) := by decide +kernel
theorem dX9_with_18 : decode cX9_with 18 = .ok (.iload_n 2, 1) := by decide +kernel
theorem dX9_with_19 : decode cX9_with 19 = .ok (.iaload, 1) := by decide +kernel
theorem dX9_with_20 : decode cX9_with 20 = .ok (.iconst (-1), 1) := by decide +kernel
theorem dX9_with_21 : decode cX9_with 21 = .ok (.if_icmp .ne 5, 3) := by decide +kernel
theorem dX9_with_24 : decode cX9_with 24 = .ok (.iconst (-1), 1) := by decide +kernel
theorem dX9_with_25 : decode cX9_with 25 = .ok (.ireturn, 1) := by decide +kernel
theorem dX9_with_26 : decode cX9_with 26 = .ok (.aload_n 0, 1) := by decide +kernel
theorem dX9_with_27 : decode cX9_with 27 = .ok (.getfield 34, 3) := by decide +kernel
theorem dX9_with_30 : decode cX9_with 30 = .ok (.getfield 150, 3) := by decide +kernel
theorem dX9_with_33 : decode cX9_with 33 = .ok (.aload_n 0, 1) := by decide +kernel
theorem dX9_with_34 : decode cX9_with 34 = .ok (.getfield 34, 3) := by decide +kernel
theorem dX9_with_37 : decode cX9_with 37 = .ok (.getfield 176, 3) := by decide +kernel
theorem dX9_with_40 : decode cX9_with 40 = .ok (.iload_n 2, 1) := by decide +kernel
theorem dX9_with_41 : decode cX9_with 41 = .ok (.iaload, 1) := by decide +kernel
theorem dX9_with_42 : decode cX9_with 42 = .ok (.iaload, 1) := by decide +kernel
theorem dX9_with_43 : decode cX9_with 43 = .ok (.ireturn, 1) := by decide +kernel
theorem dX9_rival_0 : decode cX9_rival 0 = .ok (.aload_n 0, 1) := by decide +kernel
theorem dX9_rival_1 : decode cX9_rival 1 = .ok (.iload_n 1, 1) := by decide +kernel
theorem dX9_rival_2 : decode cX9_rival 2 = .ok (.invokevirtual 172, 3) := by decide +kernel
theorem dX9_rival_5 : decode cX9_rival 5 = .ok (.istore_n 2, 1) := by decide +kernel
theorem dX9_rival_6 : decode cX9_rival 6 = .ok (.iload_n 2, 1) := by decide +kernel
theorem dX9_rival_7 : decode cX9_rival 7 = .ok (.iconst (-1), 1) := by decide +kernel
theorem dX9_rival_8 : decode cX9_rival 8 = .ok (.if_icmp .ne 7, 3) := by decide +kernel
theorem dX9_rival_11 : decode cX9_rival 11 = .ok (.iconst 1, 1) := by decide +kernel
theorem dX9_rival_12 : decode cX9_rival 12 = .ok (.goto 12, 3) := by decide +kernel
theorem dX9_rival_15 : decode cX9_rival 15 = .ok (.aload_n 0, 1) := by decide +kernel
theorem dX9_rival_16 : decode cX9_rival 16 = .ok (.getfield 34, 3) := by decide +kernel
theorem dX9_rival_19 : decode cX9_rival 19 = .ok (.getfield 179, 3) := by decide +kernel
theorem dX9_rival_22 : decode cX9_rival 22 = .ok (.iload_n 2, 1) := by decide +kernel
theorem dX9_rival_23 : decode cX9_rival 23 = .ok (.iaload, 1) := by decide +kernel
theorem dX9_rival_24 : decode cX9_rival 24 = .ok (.ireturn, 1) := by decide +kernel
theorem dX9_pair_0 : decode cX9_pair 0 = .ok (.iload_n 1, 1) := by decide +kernel
theorem dX9_pair_1 : decode cX9_pair 1 = .ok (.iconst 0, 1) := by decide +kernel
theorem dX9_pair_2 : decode cX9_pair 2 = .ok (.sipush 1000, 3) := by decide +kernel
theorem dX9_pair_5 : decode cX9_pair 5 = .ok (.invokestatic 75, 3) := by decide +kernel
theorem dX9_pair_8 : decode cX9_pair 8 = .ok (.ifCond .eq 17, 3) := by decide +kernel
theorem dX9_pair_11 : decode cX9_pair 11 = .ok (.aload_n 0, 1) := by decide +kernel
theorem dX9_pair_12 : decode cX9_pair 12 = .ok (.getfield 34, 3) := by decide +kernel
theorem dX9_pair_15 : decode cX9_pair 15 = .ok (.getfield 166, 3) := by decide +kernel
theorem dX9_pair_18 : decode cX9_pair 18 = .ok (.aload_n 0, 1) := by decide +kernel
theorem dX9_pair_19 : decode cX9_pair 19 = .ok (.getfield 65, 3) := by decide +kernel
theorem dX9_pair_22 : decode cX9_pair 22 = .ok (.if_icmp .eq 5, 3) := by decide +kernel
theorem dX9_pair_25 : decode cX9_pair 25 = .ok (.iconst (-1), 1) := by decide +kernel
theorem dX9_pair_26 : decode cX9_pair 26 = .ok (.ireturn, 1) := by decide +kernel
theorem dX9_pair_27 : decode cX9_pair 27 = .ok (.aload_n 0, 1) := by decide +kernel
theorem dX9_pair_28 : decode cX9_pair 28 = .ok (.getfield 34, 3) := by decide +kernel
theorem dX9_pair_31 : decode cX9_pair 31 = .ok (.iload_n 1, 1) := by decide +kernel
theorem dX9_pair_32 : decode cX9_pair 32 = .ok (.invokevirtual 182, 3) := by decide +kernel
theorem dX9_pair_35 : decode cX9_pair 35 = .ok (.istore_n 2, 1) := by decide +kernel
theorem dX9_pair_36 : decode cX9_pair 36 = .ok (.aload_n 0, 1) := by decide +kernel
theorem dX9_pair_37 : decode cX9_pair 37 = .ok (.getfield 52, 3) := by decide +kernel
theorem dX9_pair_40 : decode cX9_pair 40 = .ok (.sipush 200, 3) := by decide +kernel
theorem dX9_pair_43 : decode cX9_pair 43 = .ok (.if_icmp .ge 15, 3) := by decide +kernel
theorem dX9_pair_46 : decode cX9_pair 46 = .ok (.aload_n 0, 1) := by decide +kernel
theorem dX9_pair_47 : decode cX9_pair 47 = .ok (.getfield 52, 3) := by decide +kernel
theorem dX9_pair_50 : decode cX9_pair 50 = .ok (.iload_n 2, 1) := by decide +kernel
theorem dX9_pair_51 : decode cX9_pair 51 = .ok (.iadd, 1) := by decide +kernel
theorem dX9_pair_52 : decode cX9_pair 52 = .ok (.sipush 200, 3) := by decide +kernel
theorem dX9_pair_55 : decode cX9_pair 55 = .ok (.if_icmp .le 6, 3) := by decide +kernel
theorem dX9_pair_58 : decode cX9_pair 58 = .ok (.bipush (-5), 2) := by decide +kernel
theorem dX9_pair_60 : decode cX9_pair 60 = .ok (.ireturn, 1) := by decide +kernel
theorem dX9_pair_61 : decode cX9_pair 61 = .ok (.iconst 0, 1) := by decide +kernel
theorem dX9_pair_62 : decode cX9_pair 62 = .ok (.istore_n 3, 1) := by decide +kernel
theorem dX9_pair_63 : decode cX9_pair 63 = .ok (.iload_n 3, 1) := by decide +kernel
theorem dX9_pair_64 : decode cX9_pair 64 = .ok (.aload_n 0, 1) := by decide +kernel
theorem dX9_pair_65 : decode cX9_pair 65 = .ok (.getfield 34, 3) := by decide +kernel
theorem dX9_pair_68 : decode cX9_pair 68 = .ok (.getfield 140, 3) := by decide +kernel
theorem dX9_pair_71 : decode cX9_pair 71 = .ok (.if_icmp .ge 93, 3) := by decide +kernel
theorem dX9_pair_74 : decode cX9_pair 74 = .ok (.aload_n 0, 1) := by decide +kernel
theorem dX9_pair_75 : decode cX9_pair 75 = .ok (.getfield 34, 3) := by decide +kernel
theorem dX9_pair_78 : decode cX9_pair 78 = .ok (.iload_n 3, 1) := by decide +kernel
theorem dX9_pair_79 : decode cX9_pair 79 = .ok (.iload_n 1, 1) := by decide +kernel
theorem dX9_pair_80 : decode cX9_pair 80 = .ok (.invokevirtual 185, 3) := by decide +kernel
theorem dX9_pair_83 : decode cX9_pair 83 = .ok (.ifCond .eq 75, 3) := by decide +kernel
theorem dX9_pair_86 : decode cX9_pair 86 = .ok (.aload_n 0, 1) := by decide +kernel
theorem dX9_pair_87 : decode cX9_pair 87 = .ok (.getfield 12, 3) := by decide +kernel
theorem dX9_pair_90 : decode cX9_pair 90 = .ok (.iconst 0, 1) := by decide +kernel
theorem dX9_pair_91 : decode cX9_pair 91 = .ok (.aaload, 1) := by decide +kernel
theorem dX9_pair_92 : decode cX9_pair 92 = .ok (.getfield 83, 3) := by decide +kernel
theorem dX9_pair_95 : decode cX9_pair 95 = .ok (.aload_n 0, 1) := by decide +kernel
theorem dX9_pair_96 : decode cX9_pair 96 = .ok (.getfield 34, 3) := by decide +kernel
theorem dX9_pair_99 : decode cX9_pair 99 = .ok (.getfield 143, 3) := by decide +kernel
theorem dX9_pair_102 : decode cX9_pair 102 = .ok (.iload_n 3, 1) := by decide +kernel
theorem dX9_pair_103 : decode cX9_pair 103 = .ok (.iaload, 1) := by decide +kernel
theorem dX9_pair_104 : decode cX9_pair 104 = .ok (.aaload, 1) := by decide +kernel
theorem dX9_pair_105 : decode cX9_pair 105 = .ok (.astore 4, 2) := by decide +kernel
theorem dX9_pair_107 : decode cX9_pair 107 = .ok (.aload_n 0, 1) := by decide +kernel
theorem dX9_pair_108 : decode cX9_pair 108 = .ok (.getfield 12, 3) := by decide +kernel
theorem dX9_pair_111 : decode cX9_pair 111 = .ok (.iconst 1, 1) := by decide +kernel
theorem dX9_pair_112 : decode cX9_pair 112 = .ok (.aaload, 1) := by decide +kernel
theorem dX9_pair_113 : decode cX9_pair 113 = .ok (.getfield 83, 3) := by decide +kernel
theorem dX9_pair_116 : decode cX9_pair 116 = .ok (.aload_n 0, 1) := by decide +kernel
theorem dX9_pair_117 : decode cX9_pair 117 = .ok (.getfield 34, 3) := by decide +kernel
theorem dX9_pair_120 : decode cX9_pair 120 = .ok (.getfield 150, 3) := by decide +kernel
theorem dX9_pair_123 : decode cX9_pair 123 = .ok (.aload_n 0, 1) := by decide +kernel
theorem dX9_pair_124 : decode cX9_pair 124 = .ok (.getfield 34, 3) := by decide +kernel
theorem dX9_pair_127 : decode cX9_pair 127 = .ok (.getfield 176, 3) := by decide +kernel
theorem dX9_pair_130 : decode cX9_pair 130 = .ok (.iload_n 3, 1) := by decide +kernel
theorem dX9_pair_131 : decode cX9_pair 131 = .ok (.iaload, 1) := by decide +kernel
theorem dX9_pair_132 : decode cX9_pair 132 = .ok (.iaload, 1) := by decide +kernel
theorem dX9_pair_133 : decode cX9_pair 133 = .ok (.aaload, 1) := by decide +kernel
theorem dX9_pair_134 : decode cX9_pair 134 = .ok (.astore 5, 2) := by decide +kernel
theorem dX9_pair_136 : decode cX9_pair 136 = .ok (.aload_n 0, 1) := by decide +kernel
theorem dX9_pair_137 : decode cX9_pair 137 = .ok (.iconst 0, 1) := by decide +kernel
theorem dX9_pair_138 : decode cX9_pair 138 = .ok (.aload 4, 2) := by decide +kernel
theorem dX9_pair_140 : decode cX9_pair 140 = .ok (.aload 5, 2) := by decide +kernel
theorem dX9_pair_142 : decode cX9_pair 142 = .ok (.invokevirtual 189, 3) := by decide +kernel
theorem dX9_pair_145 : decode cX9_pair 145 = .ok (.pop, 1) := by decide +kernel
theorem dX9_pair_146 : decode cX9_pair 146 = .ok (.aload_n 0, 1) := by decide +kernel
theorem dX9_pair_147 : decode cX9_pair 147 = .ok (.iconst 1, 1) := by decide +kernel
theorem dX9_pair_148 : decode cX9_pair 148 = .ok (.aload_n 0, 1) := by decide +kernel
theorem dX9_pair_149 : decode cX9_pair 149 = .ok (.getfield 52, 3) := by decide +kernel
theorem dX9_pair_152 : decode cX9_pair 152 = .ok (.iconst 1, 1) := by decide +kernel
theorem dX9_pair_153 : decode cX9_pair 153 = .ok (.isub, 1) := by decide +kernel
theorem dX9_pair_154 : decode cX9_pair 154 = .ok (.iconst 0, 1) := by decide +kernel
theorem dX9_pair_155 : decode cX9_pair 155 = .ok (.invokevirtual 93, 3) := by decide +kernel
theorem dX9_pair_158 : decode cX9_pair 158 = .ok (.iinc 3 1, 3) := by decide +kernel
theorem dX9_pair_161 : decode cX9_pair 161 = .ok (.goto (-98), 3) := by decide +kernel
theorem dX9_pair_164 : decode cX9_pair 164 = .ok (.iload_n 2, 1) := by decide +kernel
theorem dX9_pair_165 : decode cX9_pair 165 = .ok (.ireturn, 1) := by decide +kernel
theorem dX9_sets_0 : decode cX9_sets 0 = .ok (.aload_n 0, 1) := by decide +kernel
theorem dX9_sets_1 : decode cX9_sets 1 = .ok (.iload_n 1, 1) := by decide +kernel
theorem dX9_sets_2 : decode cX9_sets 2 = .ok (.iload_n 2, 1) := by decide +kernel
theorem dX9_sets_3 : decode cX9_sets 3 = .ok (.invokevirtual 101, 3) := by decide +kernel
theorem dX9_sets_6 : decode cX9_sets 6 = .ok (.astore 5, 2) := by decide +kernel
theorem dX9_sets_8 : decode cX9_sets 8 = .ok (.aload 5, 2) := by decide +kernel
theorem dX9_sets_10 : decode cX9_sets 10 = .ok (.ifnull 24, 3) := by decide +kernel
theorem dX9_sets_13 : decode cX9_sets 13 = .ok (.iload_n 3, 1) := by decide +kernel
theorem dX9_sets_14 : decode cX9_sets 14 = .ok (.iconst 1, 1) := by decide +kernel
theorem dX9_sets_15 : decode cX9_sets 15 = .ok (.iconst 4, 1) := by decide +kernel
theorem dX9_sets_16 : decode cX9_sets 16 = .ok (.invokestatic 75, 3) := by decide +kernel
theorem dX9_sets_19 : decode cX9_sets 19 = .ok (.ifCond .eq 15, 3) := by decide +kernel
theorem dX9_sets_22 : decode cX9_sets 22 = .ok (.iload 4, 2) := by decide +kernel
theorem dX9_sets_24 : decode cX9_sets 24 = .ok (.iconst 0, 1) := by decide +kernel
theorem dX9_sets_25 : decode cX9_sets 25 = .ok (.sipush 10000, 3) := by decide +kernel
theorem dX9_sets_28 : decode cX9_sets 28 = .ok (.invokestatic 75, 3) := by decide +kernel
theorem dX9_sets_31 : decode cX9_sets 31 = .ok (.ifCond .ne 5, 3) := by decide +kernel
theorem dX9_sets_34 : decode cX9_sets 34 = .ok (.iconst (-1), 1) := by decide +kernel
theorem dX9_sets_35 : decode cX9_sets 35 = .ok (.ireturn, 1) := by decide +kernel
theorem dX9_sets_36 : decode cX9_sets 36 = .ok (.aload 5, 2) := by decide +kernel
theorem dX9_sets_38 : decode cX9_sets 38 = .ok (.invokevirtual 124, 3) := by decide +kernel
theorem dX9_sets_41 : decode cX9_sets 41 = .ok (.ifCond .ne 6, 3) := by decide +kernel
theorem dX9_sets_44 : decode cX9_sets 44 = .ok (.bipush (-2), 2) := by decide +kernel
theorem dX9_sets_46 : decode cX9_sets 46 = .ok (.ireturn, 1) := by decide +kernel
theorem dX9_sets_47 : decode cX9_sets 47 = .ok (.aload_n 0, 1) := by decide +kernel
theorem dX9_sets_48 : decode cX9_sets 48 = .ok (.getfield 41, 3) := by decide +kernel
theorem dX9_sets_51 : decode cX9_sets 51 = .ok (.aload 5, 2) := by decide +kernel
theorem dX9_sets_53 : decode cX9_sets 53 = .ok (.aload_n 0, 1) := by decide +kernel
theorem dX9_sets_54 : decode cX9_sets 54 = .ok (.getfield 12, 3) := by decide +kernel
theorem dX9_sets_57 : decode cX9_sets 57 = .ok (.iconst 1, 1) := by decide +kernel
theorem dX9_sets_58 : decode cX9_sets 58 = .ok (.iload_n 1, 1) := by decide +kernel
theorem dX9_sets_59 : decode cX9_sets 59 = .ok (.isub, 1) := by decide +kernel
theorem dX9_sets_60 : decode cX9_sets 60 = .ok (.aaload, 1) := by decide +kernel
theorem dX9_sets_61 : decode cX9_sets 61 = .ok (.aload_n 0, 1) := by decide +kernel
theorem dX9_sets_62 : decode cX9_sets 62 = .ok (.getfield 59, 3) := by decide +kernel
theorem dX9_sets_65 : decode cX9_sets 65 = .ok (.invokevirtual 193, 3) := by decide +kernel
theorem dX9_sets_68 : decode cX9_sets 68 = .ok (.aload_n 0, 1) := by decide +kernel
theorem dX9_sets_69 : decode cX9_sets 69 = .ok (.getfield 41, 3) := by decide +kernel
theorem dX9_sets_72 : decode cX9_sets 72 = .ok (.iload_n 3, 1) := by decide +kernel
theorem dX9_sets_73 : decode cX9_sets 73 = .ok (.iload 4, 2) := by decide +kernel
theorem dX9_sets_75 : decode cX9_sets 75 = .ok (.invokevirtual 196, 3) := by decide +kernel
theorem dX9_sets_78 : decode cX9_sets 78 = .ok (.aload_n 0, 1) := by decide +kernel
theorem dX9_sets_79 : decode cX9_sets 79 = .ok (.getfield 41, 3) := by decide +kernel
theorem dX9_sets_82 : decode cX9_sets 82 = .ok (.aload_n 0, 1) := by decide +kernel
theorem dX9_sets_83 : decode cX9_sets 83 = .ok (.getfield 65, 3) := by decide +kernel
theorem dX9_sets_86 : decode cX9_sets 86 = .ok (.putfield 199, 3) := by decide +kernel
theorem dX9_sets_89 : decode cX9_sets 89 = .ok (.aload_n 0, 1) := by decide +kernel
theorem dX9_sets_90 : decode cX9_sets 90 = .ok (.getfield 41, 3) := by decide +kernel
theorem dX9_sets_93 : decode cX9_sets 93 = .ok (.getfield 200, 3) := by decide +kernel
theorem dX9_sets_96 : decode cX9_sets 96 = .ok (.ireturn, 1) := by decide +kernel
theorem dX9_size_0 : decode cX9_size 0 = .ok (.aload_n 0, 1) := by decide +kernel
theorem dX9_size_1 : decode cX9_size 1 = .ok (.getfield 41, 3) := by decide +kernel
theorem dX9_size_4 : decode cX9_size 4 = .ok (.iload_n 1, 1) := by decide +kernel
theorem dX9_size_5 : decode cX9_size 5 = .ok (.invokevirtual 203, 3) := by decide +kernel
theorem dX9_size_8 : decode cX9_size 8 = .ok (.ifCond .eq 14, 3) := by decide +kernel
theorem dX9_size_11 : decode cX9_size 11 = .ok (.aload_n 0, 1) := by decide +kernel
theorem dX9_size_12 : decode cX9_size 12 = .ok (.getfield 41, 3) := by decide +kernel
theorem dX9_size_15 : decode cX9_size 15 = .ok (.iload_n 1, 1) := by decide +kernel
theorem dX9_size_16 : decode cX9_size 16 = .ok (.invokevirtual 206, 3) := by decide +kernel
theorem dX9_size_19 : decode cX9_size 19 = .ok (.goto 4, 3) := by decide +kernel
theorem dX9_size_22 : decode cX9_size 22 = .ok (.iconst (-1), 1) := by decide +kernel
theorem dX9_size_23 : decode cX9_size 23 = .ok (.ireturn, 1) := by decide +kernel
theorem dX9_in_0 : decode cX9_in 0 = .ok (.aload_n 0, 1) := by decide +kernel
theorem dX9_in_1 : decode cX9_in 1 = .ok (.getfield 41, 3) := by decide +kernel
theorem dX9_in_4 : decode cX9_in 4 = .ok (.iload_n 1, 1) := by decide +kernel
theorem dX9_in_5 : decode cX9_in 5 = .ok (.invokevirtual 203, 3) := by decide +kernel
theorem dX9_in_8 : decode cX9_in 8 = .ok (.ifCond .eq 33, 3) := by decide +kernel
theorem dX9_in_11 : decode cX9_in 11 = .ok (.iload_n 2, 1) := by decide +kernel
theorem dX9_in_12 : decode cX9_in 12 = .ok (.iconst 0, 1) := by decide +kernel
theorem dX9_in_13 : decode cX9_in 13 = .ok (.aload_n 0, 1) := by decide +kernel
theorem dX9_in_14 : decode cX9_in 14 = .ok (.getfield 41, 3) := by decide +kernel
theorem dX9_in_17 : decode cX9_in 17 = .ok (.iload_n 1, 1) := by decide +kernel
theorem dX9_in_18 : decode cX9_in 18 = .ok (.invokevirtual 206, 3) := by decide +kernel
theorem dX9_in_21 : decode cX9_in 21 = .ok (.iconst 1, 1) := by decide +kernel
theorem dX9_in_22 : decode cX9_in 22 = .ok (.isub, 1) := by decide +kernel
theorem dX9_in_23 : decode cX9_in 23 = .ok (.invokestatic 75, 3) := by decide +kernel
theorem dX9_in_26 : decode cX9_in 26 = .ok (.ifCond .eq 15, 3) := by decide +kernel
theorem dX9_in_29 : decode cX9_in 29 = .ok (.aload_n 0, 1) := by decide +kernel
theorem dX9_in_30 : decode cX9_in 30 = .ok (.getfield 41, 3) := by decide +kernel
theorem dX9_in_33 : decode cX9_in 33 = .ok (.iload_n 1, 1) := by decide +kernel
theorem dX9_in_34 : decode cX9_in 34 = .ok (.iload_n 2, 1) := by decide +kernel
theorem dX9_in_35 : decode cX9_in 35 = .ok (.invokevirtual 209, 3) := by decide +kernel
theorem dX9_in_38 : decode cX9_in 38 = .ok (.goto 4, 3) := by decide +kernel
theorem dX9_in_41 : decode cX9_in 41 = .ok (.iconst (-1), 1) := by decide +kernel
theorem dX9_in_42 : decode cX9_in 42 = .ok (.ireturn, 1) := by decide +kernel
theorem dX9_set_0 : decode cX9_set 0 = .ok (.aload_n 0, 1) := by decide +kernel
theorem dX9_set_1 : decode cX9_set 1 = .ok (.getfield 41, 3) := by decide +kernel
theorem dX9_set_4 : decode cX9_set 4 = .ok (.iload_n 1, 1) := by decide +kernel
theorem dX9_set_5 : decode cX9_set 5 = .ok (.invokevirtual 203, 3) := by decide +kernel
theorem dX9_set_8 : decode cX9_set 8 = .ok (.ifCond .eq 17, 3) := by decide +kernel
theorem dX9_set_11 : decode cX9_set 11 = .ok (.aload_n 0, 1) := by decide +kernel
theorem dX9_set_12 : decode cX9_set 12 = .ok (.getfield 41, 3) := by decide +kernel
theorem dX9_set_15 : decode cX9_set 15 = .ok (.getfield 199, 3) := by decide +kernel
theorem dX9_set_18 : decode cX9_set 18 = .ok (.aload_n 0, 1) := by decide +kernel
theorem dX9_set_19 : decode cX9_set 19 = .ok (.getfield 65, 3) := by decide +kernel
theorem dX9_set_22 : decode cX9_set 22 = .ok (.if_icmp .eq 5, 3) := by decide +kernel
theorem dX9_set_25 : decode cX9_set 25 = .ok (.iconst (-1), 1) := by decide +kernel
theorem dX9_set_26 : decode cX9_set 26 = .ok (.ireturn, 1) := by decide +kernel
theorem dX9_set_27 : decode cX9_set 27 = .ok (.aload_n 0, 1) := by decide +kernel
theorem dX9_set_28 : decode cX9_set 28 = .ok (.getfield 52, 3) := by decide +kernel
theorem dX9_set_31 : decode cX9_set 31 = .ok (.sipush 200, 3) := by decide +kernel
theorem dX9_set_34 : decode cX9_set 34 = .ok (.if_icmp .lt 6, 3) := by decide +kernel
theorem dX9_set_37 : decode cX9_set 37 = .ok (.bipush (-5), 2) := by decide +kernel
theorem dX9_set_39 : decode cX9_set 39 = .ok (.ireturn, 1) := by decide +kernel
theorem dX9_set_40 : decode cX9_set 40 = .ok (.aload_n 0, 1) := by decide +kernel
theorem dX9_set_41 : decode cX9_set 41 = .ok (.getfield 12, 3) := by decide +kernel
theorem dX9_set_44 : decode cX9_set 44 = .ok (.iconst 1, 1) := by decide +kernel
theorem dX9_set_45 : decode cX9_set 45 = .ok (.aload_n 0, 1) := by decide +kernel
theorem dX9_set_46 : decode cX9_set 46 = .ok (.getfield 41, 3) := by decide +kernel
theorem dX9_set_49 : decode cX9_set 49 = .ok (.getfield 212, 3) := by decide +kernel
theorem dX9_set_52 : decode cX9_set 52 = .ok (.isub, 1) := by decide +kernel
theorem dX9_set_53 : decode cX9_set 53 = .ok (.aaload, 1) := by decide +kernel
theorem dX9_set_54 : decode cX9_set 54 = .ok (.astore_n 2, 1) := by decide +kernel
theorem dX9_set_55 : decode cX9_set 55 = .ok (.aload_n 0, 1) := by decide +kernel
theorem dX9_set_56 : decode cX9_set 56 = .ok (.getfield 12, 3) := by decide +kernel
theorem dX9_set_59 : decode cX9_set 59 = .ok (.aload_n 0, 1) := by decide +kernel
theorem dX9_set_60 : decode cX9_set 60 = .ok (.getfield 41, 3) := by decide +kernel
theorem dX9_set_63 : decode cX9_set 63 = .ok (.getfield 212, 3) := by decide +kernel
theorem dX9_set_66 : decode cX9_set 66 = .ok (.aaload, 1) := by decide +kernel
theorem dX9_set_67 : decode cX9_set 67 = .ok (.getfield 83, 3) := by decide +kernel
theorem dX9_set_70 : decode cX9_set 70 = .ok (.aload_n 0, 1) := by decide +kernel
theorem dX9_set_71 : decode cX9_set 71 = .ok (.getfield 41, 3) := by decide +kernel
theorem dX9_set_74 : decode cX9_set 74 = .ok (.getfield 215, 3) := by decide +kernel
theorem dX9_set_77 : decode cX9_set 77 = .ok (.aaload, 1) := by decide +kernel
theorem dX9_set_78 : decode cX9_set 78 = .ok (.astore_n 3, 1) := by decide +kernel
theorem dX9_set_79 : decode cX9_set 79 = .ok (.aload_n 0, 1) := by decide +kernel
theorem dX9_set_80 : decode cX9_set 80 = .ok (.iconst 1, 1) := by decide +kernel
theorem dX9_set_81 : decode cX9_set 81 = .ok (.aload_n 3, 1) := by decide +kernel
theorem dX9_set_82 : decode cX9_set 82 = .ok (.aload_n 2, 1) := by decide +kernel
theorem dX9_set_83 : decode cX9_set 83 = .ok (.getfield 83, 3) := by decide +kernel
theorem dX9_set_86 : decode cX9_set 86 = .ok (.aload_n 0, 1) := by decide +kernel
theorem dX9_set_87 : decode cX9_set 87 = .ok (.getfield 41, 3) := by decide +kernel
theorem dX9_set_90 : decode cX9_set 90 = .ok (.iload_n 1, 1) := by decide +kernel
theorem dX9_set_91 : decode cX9_set 91 = .ok (.iconst 0, 1) := by decide +kernel
theorem dX9_set_92 : decode cX9_set 92 = .ok (.invokevirtual 209, 3) := by decide +kernel
theorem dX9_set_95 : decode cX9_set 95 = .ok (.aaload, 1) := by decide +kernel
theorem dX9_set_96 : decode cX9_set 96 = .ok (.invokevirtual 189, 3) := by decide +kernel
theorem dX9_set_99 : decode cX9_set 99 = .ok (.istore 4, 2) := by decide +kernel
theorem dX9_set_101 : decode cX9_set 101 = .ok (.iconst 1, 1) := by decide +kernel
theorem dX9_set_102 : decode cX9_set 102 = .ok (.istore 5, 2) := by decide +kernel
theorem dX9_set_104 : decode cX9_set 104 = .ok (.iload 5, 2) := by decide +kernel
theorem dX9_set_106 : decode cX9_set 106 = .ok (.aload_n 0, 1) := by decide +kernel
theorem dX9_set_107 : decode cX9_set 107 = .ok (.getfield 41, 3) := by decide +kernel
theorem dX9_set_110 : decode cX9_set 110 = .ok (.iload_n 1, 1) := by decide +kernel
theorem dX9_set_111 : decode cX9_set 111 = .ok (.invokevirtual 206, 3) := by decide +kernel
theorem dX9_set_114 : decode cX9_set 114 = .ok (.if_icmp .ge 30, 3) := by decide +kernel
theorem dX9_set_117 : decode cX9_set 117 = .ok (.aload_n 0, 1) := by decide +kernel
theorem dX9_set_118 : decode cX9_set 118 = .ok (.iload 4, 2) := by decide +kernel
theorem dX9_set_120 : decode cX9_set 120 = .ok (.aload_n 2, 1) := by decide +kernel
theorem dX9_set_121 : decode cX9_set 121 = .ok (.getfield 83, 3) := by decide +kernel
theorem dX9_set_124 : decode cX9_set 124 = .ok (.aload_n 0, 1) := by decide +kernel
theorem dX9_set_125 : decode cX9_set 125 = .ok (.getfield 41, 3) := by decide +kernel
theorem dX9_set_128 : decode cX9_set 128 = .ok (.iload_n 1, 1) := by decide +kernel
theorem dX9_set_129 : decode cX9_set 129 = .ok (.iload 5, 2) := by decide +kernel
theorem dX9_set_131 : decode cX9_set 131 = .ok (.invokevirtual 209, 3) := by decide +kernel
theorem dX9_set_134 : decode cX9_set 134 = .ok (.aaload, 1) := by decide +kernel
theorem dX9_set_135 : decode cX9_set 135 = .ok (.invokevirtual 218, 3) := by decide +kernel
theorem dX9_set_138 : decode cX9_set 138 = .ok (.iinc 5 1, 3) := by decide +kernel
theorem dX9_set_141 : decode cX9_set 141 = .ok (.goto (-37), 3) := by decide +kernel
theorem dX9_set_144 : decode cX9_set 144 = .ok (.aload_n 0, 1) := by decide +kernel
theorem dX9_set_145 : decode cX9_set 145 = .ok (.iconst 1, 1) := by decide +kernel
theorem dX9_set_146 : decode cX9_set 146 = .ok (.iload 4, 2) := by decide +kernel
theorem dX9_set_148 : decode cX9_set 148 = .ok (.iconst 0, 1) := by decide +kernel
theorem dX9_set_149 : decode cX9_set 149 = .ok (.invokevirtual 93, 3) := by decide +kernel
theorem dX9_set_152 : decode cX9_set 152 = .ok (.iload 4, 2) := by decide +kernel
theorem dX9_set_154 : decode cX9_set 154 = .ok (.ireturn, 1) := by decide +kernel
theorem dX9_hand_0 : decode cX9_hand 0 = .ok (.aload_n 0, 1) := by decide +kernel
theorem dX9_hand_1 : decode cX9_hand 1 = .ok (.iconst 0, 1) := by decide +kernel
theorem dX9_hand_2 : decode cX9_hand 2 = .ok (.iload_n 1, 1) := by decide +kernel
theorem dX9_hand_3 : decode cX9_hand 3 = .ok (.invokevirtual 101, 3) := by decide +kernel
theorem dX9_hand_6 : decode cX9_hand 6 = .ok (.astore_n 3, 1) := by decide +kernel
theorem dX9_hand_7 : decode cX9_hand 7 = .ok (.aload_n 0, 1) := by decide +kernel
theorem dX9_hand_8 : decode cX9_hand 8 = .ok (.iconst 1, 1) := by decide +kernel
theorem dX9_hand_9 : decode cX9_hand 9 = .ok (.iload_n 2, 1) := by decide +kernel
theorem dX9_hand_10 : decode cX9_hand 10 = .ok (.invokevirtual 101, 3) := by decide +kernel
theorem dX9_hand_13 : decode cX9_hand 13 = .ok (.astore 4, 2) := by decide +kernel
theorem dX9_hand_15 : decode cX9_hand 15 = .ok (.aload_n 3, 1) := by decide +kernel
theorem dX9_hand_16 : decode cX9_hand 16 = .ok (.ifnull 8, 3) := by decide +kernel
theorem dX9_hand_19 : decode cX9_hand 19 = .ok (.aload 4, 2) := by decide +kernel
theorem dX9_hand_21 : decode cX9_hand 21 = .ok (.ifnonnull 5, 3) := by decide +kernel
theorem dX9_hand_24 : decode cX9_hand 24 = .ok (.iconst (-1), 1) := by decide +kernel
theorem dX9_hand_25 : decode cX9_hand 25 = .ok (.ireturn, 1) := by decide +kernel
theorem dX9_hand_26 : decode cX9_hand 26 = .ok (.aload_n 3, 1) := by decide +kernel
theorem dX9_hand_27 : decode cX9_hand 27 = .ok (.invokevirtual 124, 3) := by decide +kernel
theorem dX9_hand_30 : decode cX9_hand 30 = .ok (.ifCond .eq 11, 3) := by decide +kernel
theorem dX9_hand_33 : decode cX9_hand 33 = .ok (.aload 4, 2) := by decide +kernel
theorem dX9_hand_35 : decode cX9_hand 35 = .ok (.invokevirtual 124, 3) := by decide +kernel
theorem dX9_hand_38 : decode cX9_hand 38 = .ok (.ifCond .ne 6, 3) := by decide +kernel
theorem dX9_hand_41 : decode cX9_hand 41 = .ok (.bipush (-2), 2) := by decide +kernel
theorem dX9_hand_43 : decode cX9_hand 43 = .ok (.ireturn, 1) := by decide +kernel
theorem dX9_hand_44 : decode cX9_hand 44 = .ok (.aload_n 0, 1) := by decide +kernel
theorem dX9_hand_45 : decode cX9_hand 45 = .ok (.getfield 52, 3) := by decide +kernel
theorem dX9_hand_48 : decode cX9_hand 48 = .ok (.sipush 200, 3) := by decide +kernel
theorem dX9_hand_51 : decode cX9_hand 51 = .ok (.if_icmp .lt 6, 3) := by decide +kernel
theorem dX9_hand_54 : decode cX9_hand 54 = .ok (.bipush (-5), 2) := by decide +kernel
theorem dX9_hand_56 : decode cX9_hand 56 = .ok (.ireturn, 1) := by decide +kernel
theorem dX9_hand_57 : decode cX9_hand 57 = .ok (.aload_n 0, 1) := by decide +kernel
theorem dX9_hand_58 : decode cX9_hand 58 = .ok (.iconst 2, 1) := by decide +kernel
theorem dX9_hand_59 : decode cX9_hand 59 = .ok (.aload_n 3, 1) := by decide +kernel
theorem dX9_hand_60 : decode cX9_hand 60 = .ok (.aload 4, 2) := by decide +kernel
theorem dX9_hand_62 : decode cX9_hand 62 = .ok (.invokevirtual 189, 3) := by decide +kernel
theorem dX9_hand_65 : decode cX9_hand 65 = .ok (.istore 5, 2) := by decide +kernel
theorem dX9_hand_67 : decode cX9_hand 67 = .ok (.aload_n 0, 1) := by decide +kernel
theorem dX9_hand_68 : decode cX9_hand 68 = .ok (.iconst 1, 1) := by decide +kernel
theorem dX9_hand_69 : decode cX9_hand 69 = .ok (.iload 5, 2) := by decide +kernel
theorem dX9_hand_71 : decode cX9_hand 71 = .ok (.iconst 0, 1) := by decide +kernel
theorem dX9_hand_72 : decode cX9_hand 72 = .ok (.invokevirtual 93, 3) := by decide +kernel
theorem dX9_hand_75 : decode cX9_hand 75 = .ok (.iload 5, 2) := by decide +kernel
theorem dX9_hand_77 : decode cX9_hand 77 = .ok (.ireturn, 1) := by decide +kernel
theorem dX9_join_0 : decode cX9_join 0 = .ok (.aload_n 0, 1) := by decide +kernel
theorem dX9_join_1 : decode cX9_join 1 = .ok (.iload_n 2, 1) := by decide +kernel
theorem dX9_join_2 : decode cX9_join 2 = .ok (.iload_n 3, 1) := by decide +kernel
theorem dX9_join_3 : decode cX9_join 3 = .ok (.invokevirtual 101, 3) := by decide +kernel
theorem dX9_join_6 : decode cX9_join 6 = .ok (.astore 4, 2) := by decide +kernel
theorem dX9_join_8 : decode cX9_join 8 = .ok (.aload_n 0, 1) := by decide +kernel
theorem dX9_join_9 : decode cX9_join 9 = .ok (.iload_n 1, 1) := by decide +kernel
theorem dX9_join_10 : decode cX9_join 10 = .ok (.invokevirtual 222, 3) := by decide +kernel
theorem dX9_join_13 : decode cX9_join 13 = .ok (.ifCond .eq 8, 3) := by decide +kernel
theorem dX9_join_16 : decode cX9_join 16 = .ok (.aload 4, 2) := by decide +kernel
theorem dX9_join_18 : decode cX9_join 18 = .ok (.ifnonnull 5, 3) := by decide +kernel
theorem dX9_join_21 : decode cX9_join 21 = .ok (.iconst (-1), 1) := by decide +kernel
theorem dX9_join_22 : decode cX9_join 22 = .ok (.ireturn, 1) := by decide +kernel
theorem dX9_join_23 : decode cX9_join 23 = .ok (.aload 4, 2) := by decide +kernel
theorem dX9_join_25 : decode cX9_join 25 = .ok (.invokevirtual 124, 3) := by decide +kernel
theorem dX9_join_28 : decode cX9_join 28 = .ok (.ifCond .ne 6, 3) := by decide +kernel
theorem dX9_join_31 : decode cX9_join 31 = .ok (.bipush (-2), 2) := by decide +kernel
theorem dX9_join_33 : decode cX9_join 33 = .ok (.ireturn, 1) := by decide +kernel
theorem dX9_join_34 : decode cX9_join 34 = .ok (.aload_n 0, 1) := by decide +kernel
theorem dX9_join_35 : decode cX9_join 35 = .ok (.getfield 20, 3) := by decide +kernel
theorem dX9_join_38 : decode cX9_join 38 = .ok (.iload_n 1, 1) := by decide +kernel
theorem dX9_join_39 : decode cX9_join 39 = .ok (.aaload, 1) := by decide +kernel
theorem dX9_join_40 : decode cX9_join 40 = .ok (.astore 5, 2) := by decide +kernel
theorem dX9_join_42 : decode cX9_join 42 = .ok (.aload 5, 2) := by decide +kernel
theorem dX9_join_44 : decode cX9_join 44 = .ok (.getfield 225, 3) := by decide +kernel
theorem dX9_join_47 : decode cX9_join 47 = .ok (.iconst 1, 1) := by decide +kernel
theorem dX9_join_48 : decode cX9_join 48 = .ok (.if_icmp .ne 6, 3) := by decide +kernel
theorem dX9_join_51 : decode cX9_join 51 = .ok (.bipush (-3), 2) := by decide +kernel
theorem dX9_join_53 : decode cX9_join 53 = .ok (.ireturn, 1) := by decide +kernel
theorem dX9_join_54 : decode cX9_join 54 = .ok (.aload 5, 2) := by decide +kernel
theorem dX9_join_56 : decode cX9_join 56 = .ok (.getfield 228, 3) := by decide +kernel
theorem dX9_join_59 : decode cX9_join 59 = .ok (.bipush 8, 2) := by decide +kernel
theorem dX9_join_61 : decode cX9_join 61 = .ok (.if_icmp .lt 6, 3) := by decide +kernel
theorem dX9_join_64 : decode cX9_join 64 = .ok (.bipush (-5), 2) := by decide +kernel
theorem dX9_join_66 : decode cX9_join 66 = .ok (.ireturn, 1) := by decide +kernel
theorem dX9_join_67 : decode cX9_join 67 = .ok (.aload 5, 2) := by decide +kernel
theorem dX9_join_69 : decode cX9_join 69 = .ok (.getfield 229, 3) := by decide +kernel
theorem dX9_join_72 : decode cX9_join 72 = .ok (.istore 6, 2) := by decide +kernel
theorem dX9_join_74 : decode cX9_join 74 = .ok (.aload 5, 2) := by decide +kernel
theorem dX9_join_76 : decode cX9_join 76 = .ok (.iconst 2, 1) := by decide +kernel
theorem dX9_join_77 : decode cX9_join 77 = .ok (.putfield 229, 3) := by decide +kernel
theorem dX9_join_80 : decode cX9_join 80 = .ok (.aload_n 0, 1) := by decide +kernel
theorem dX9_join_81 : decode cX9_join 81 = .ok (.iload_n 1, 1) := by decide +kernel
theorem dX9_join_82 : decode cX9_join 82 = .ok (.aload 4, 2) := by decide +kernel
theorem dX9_join_84 : decode cX9_join 84 = .ok (.invokevirtual 218, 3) := by decide +kernel
theorem dX9_join_87 : decode cX9_join 87 = .ok (.aload_n 0, 1) := by decide +kernel
theorem dX9_join_88 : decode cX9_join 88 = .ok (.iconst 2, 1) := by decide +kernel
theorem dX9_join_89 : decode cX9_join 89 = .ok (.iload_n 1, 1) := by decide +kernel
theorem dX9_join_90 : decode cX9_join 90 = .ok (.iload 6, 2) := by decide +kernel
theorem dX9_join_92 : decode cX9_join 92 = .ok (.invokevirtual 93, 3) := by decide +kernel
theorem dX9_join_95 : decode cX9_join 95 = .ok (.aload 5, 2) := by decide +kernel
theorem dX9_join_97 : decode cX9_join 97 = .ok (.getfield 228, 3) := by decide +kernel
theorem dX9_join_100 : decode cX9_join 100 = .ok (.ireturn, 1) := by decide +kernel
theorem dX9_part_0 : decode cX9_part 0 = .ok (.aload_n 0, 1) := by decide +kernel
theorem dX9_part_1 : decode cX9_part 1 = .ok (.iload_n 1, 1) := by decide +kernel
theorem dX9_part_2 : decode cX9_part 2 = .ok (.invokevirtual 222, 3) := by decide +kernel
theorem dX9_part_5 : decode cX9_part 5 = .ok (.ifCond .ne 5, 3) := by decide +kernel
theorem dX9_part_8 : decode cX9_part 8 = .ok (.iconst (-1), 1) := by decide +kernel
theorem dX9_part_9 : decode cX9_part 9 = .ok (.ireturn, 1) := by decide +kernel
theorem dX9_part_10 : decode cX9_part 10 = .ok (.aload_n 0, 1) := by decide +kernel
theorem dX9_part_11 : decode cX9_part 11 = .ok (.getfield 20, 3) := by decide +kernel
theorem dX9_part_14 : decode cX9_part 14 = .ok (.iload_n 1, 1) := by decide +kernel
theorem dX9_part_15 : decode cX9_part 15 = .ok (.aaload, 1) := by decide +kernel
theorem dX9_part_16 : decode cX9_part 16 = .ok (.astore_n 2, 1) := by decide +kernel
theorem dX9_part_17 : decode cX9_part 17 = .ok (.aload_n 2, 1) := by decide +kernel
theorem dX9_part_18 : decode cX9_part 18 = .ok (.getfield 225, 3) := by decide +kernel
theorem dX9_part_21 : decode cX9_part 21 = .ok (.iconst 1, 1) := by decide +kernel
theorem dX9_part_22 : decode cX9_part 22 = .ok (.if_icmp .ne 6, 3) := by decide +kernel
theorem dX9_part_25 : decode cX9_part 25 = .ok (.bipush (-3), 2) := by decide +kernel
theorem dX9_part_27 : decode cX9_part 27 = .ok (.ireturn, 1) := by decide +kernel
theorem dX9_part_28 : decode cX9_part 28 = .ok (.aload_n 2, 1) := by decide +kernel
theorem dX9_part_29 : decode cX9_part 29 = .ok (.aload_n 0, 1) := by decide +kernel
theorem dX9_part_30 : decode cX9_part 30 = .ok (.getfield 56, 3) := by decide +kernel
theorem dX9_part_33 : decode cX9_part 33 = .ok (.putfield 232, 3) := by decide +kernel
theorem dX9_part_36 : decode cX9_part 36 = .ok (.aload_n 2, 1) := by decide +kernel
theorem dX9_part_37 : decode cX9_part 37 = .ok (.iconst (-1), 1) := by decide +kernel
theorem dX9_part_38 : decode cX9_part 38 = .ok (.invokevirtual 235, 3) := by decide +kernel
theorem dX9_part_41 : decode cX9_part 41 = .ok (.aload_n 0, 1) := by decide +kernel
theorem dX9_part_42 : decode cX9_part 42 = .ok (.iconst 3, 1) := by decide +kernel
theorem dX9_part_43 : decode cX9_part 43 = .ok (.iload_n 1, 1) := by decide +kernel
theorem dX9_part_44 : decode cX9_part 44 = .ok (.iconst 0, 1) := by decide +kernel
theorem dX9_part_45 : decode cX9_part 45 = .ok (.invokevirtual 93, 3) := by decide +kernel
theorem dX9_part_48 : decode cX9_part 48 = .ok (.aload_n 2, 1) := by decide +kernel
theorem dX9_part_49 : decode cX9_part 49 = .ok (.getfield 228, 3) := by decide +kernel
theorem dX9_part_52 : decode cX9_part 52 = .ok (.ireturn, 1) := by decide +kernel
theorem dX9_lock_0 : decode cX9_lock 0 = .ok (.aload_n 0, 1) := by decide +kernel
theorem dX9_lock_1 : decode cX9_lock 1 = .ok (.iload_n 1, 1) := by decide +kernel
theorem dX9_lock_2 : decode cX9_lock 2 = .ok (.invokevirtual 222, 3) := by decide +kernel
theorem dX9_lock_5 : decode cX9_lock 5 = .ok (.ifCond .eq 12, 3) := by decide +kernel
theorem dX9_lock_8 : decode cX9_lock 8 = .ok (.iload_n 2, 1) := by decide +kernel
theorem dX9_lock_9 : decode cX9_lock 9 = .ok (.iconst 0, 1) := by decide +kernel
theorem dX9_lock_10 : decode cX9_lock 10 = .ok (.iconst 1, 1) := by decide +kernel
theorem dX9_lock_11 : decode cX9_lock 11 = .ok (.invokestatic 75, 3) := by decide +kernel
theorem dX9_lock_14 : decode cX9_lock 14 = .ok (.ifCond .ne 5, 3) := by decide +kernel
theorem dX9_lock_17 : decode cX9_lock 17 = .ok (.iconst (-1), 1) := by decide +kernel
theorem dX9_lock_18 : decode cX9_lock 18 = .ok (.ireturn, 1) := by decide +kernel
theorem dX9_lock_19 : decode cX9_lock 19 = .ok (.aload_n 0, 1) := by decide +kernel
theorem dX9_lock_20 : decode cX9_lock 20 = .ok (.getfield 20, 3) := by decide +kernel
theorem dX9_lock_23 : decode cX9_lock 23 = .ok (.iload_n 1, 1) := by decide +kernel
theorem dX9_lock_24 : decode cX9_lock 24 = .ok (.aaload, 1) := by decide +kernel
theorem dX9_lock_25 : decode cX9_lock 25 = .ok (.getfield 225, 3) := by decide +kernel
theorem dX9_lock_28 : decode cX9_lock 28 = .ok (.istore_n 3, 1) := by decide +kernel
theorem dX9_lock_29 : decode cX9_lock 29 = .ok (.aload_n 0, 1) := by decide +kernel
theorem dX9_lock_30 : decode cX9_lock 30 = .ok (.getfield 20, 3) := by decide +kernel
theorem dX9_lock_33 : decode cX9_lock 33 = .ok (.iload_n 1, 1) := by decide +kernel
theorem dX9_lock_34 : decode cX9_lock 34 = .ok (.aaload, 1) := by decide +kernel
theorem dX9_lock_35 : decode cX9_lock 35 = .ok (.iload_n 2, 1) := by decide +kernel
theorem dX9_lock_36 : decode cX9_lock 36 = .ok (.putfield 225, 3) := by decide +kernel
theorem dX9_lock_39 : decode cX9_lock 39 = .ok (.aload_n 0, 1) := by decide +kernel
theorem dX9_lock_40 : decode cX9_lock 40 = .ok (.iconst 4, 1) := by decide +kernel
theorem dX9_lock_41 : decode cX9_lock 41 = .ok (.iload_n 1, 1) := by decide +kernel
theorem dX9_lock_42 : decode cX9_lock 42 = .ok (.iload_n 3, 1) := by decide +kernel
theorem dX9_lock_43 : decode cX9_lock 43 = .ok (.invokevirtual 93, 3) := by decide +kernel
theorem dX9_lock_46 : decode cX9_lock 46 = .ok (.iload_n 3, 1) := by decide +kernel
theorem dX9_lock_47 : decode cX9_lock 47 = .ok (.ireturn, 1) := by decide +kernel
theorem dX9_group_0 : decode cX9_group 0 = .ok (.iload_n 1, 1) := by decide +kernel
theorem dX9_group_1 : decode cX9_group 1 = .ok (.iconst 0, 1) := by decide +kernel
theorem dX9_group_2 : decode cX9_group 2 = .ok (.aload_n 0, 1) := by decide +kernel
theorem dX9_group_3 : decode cX9_group 3 = .ok (.getfield 52, 3) := by decide +kernel
theorem dX9_group_6 : decode cX9_group 6 = .ok (.iconst 1, 1) := by decide +kernel
theorem dX9_group_7 : decode cX9_group 7 = .ok (.isub, 1) := by decide +kernel
theorem dX9_group_8 : decode cX9_group 8 = .ok (.invokestatic 75, 3) := by decide +kernel
theorem dX9_group_11 : decode cX9_group 11 = .ok (.ifCond .ne 6, 3) := by decide +kernel
theorem dX9_group_14 : decode cX9_group 14 = .ok (.ldc 238, 2) := by decide +kernel
theorem dX9_group_16 : decode cX9_group 16 = .ok (.ireturn, 1) := by decide +kernel
theorem dX9_group_17 : decode cX9_group 17 = .ok (.aload_n 0, 1) := by decide +kernel
theorem dX9_group_18 : decode cX9_group 18 = .ok (.getfield 20, 3) := by decide +kernel
theorem dX9_group_21 : decode cX9_group 21 = .ok (.iload_n 1, 1) := by decide +kernel
theorem dX9_group_22 : decode cX9_group 22 = .ok (.aaload, 1) := by decide +kernel
theorem dX9_group_23 : decode cX9_group 23 = .ok (.astore_n 3, 1) := by decide +kernel
theorem dX9_group_24 : decode cX9_group 24 = .ok (.iload_n 2, 1) := by decide +kernel
theorem dX9_group_25 : decode cX9_group 25 = .ok (.tableswitch 69 0 5 #[39, 44, 49, 54, 59, 64], 39) := by decide +kernel
theorem dX9_group_64 : decode cX9_group 64 = .ok (.aload_n 3, 1) := by decide +kernel
theorem dX9_group_65 : decode cX9_group 65 = .ok (.getfield 229, 3) := by decide +kernel
theorem dX9_group_68 : decode cX9_group 68 = .ok (.ireturn, 1) := by decide +kernel
theorem dX9_group_69 : decode cX9_group 69 = .ok (.aload_n 3, 1) := by decide +kernel
theorem dX9_group_70 : decode cX9_group 70 = .ok (.getfield 228, 3) := by decide +kernel
theorem dX9_group_73 : decode cX9_group 73 = .ok (.ireturn, 1) := by decide +kernel
theorem dX9_group_74 : decode cX9_group 74 = .ok (.aload_n 3, 1) := by decide +kernel
theorem dX9_group_75 : decode cX9_group 75 = .ok (.invokevirtual 239, 3) := by decide +kernel
theorem dX9_group_78 : decode cX9_group 78 = .ok (.ireturn, 1) := by decide +kernel
theorem dX9_group_79 : decode cX9_group 79 = .ok (.aload_n 3, 1) := by decide +kernel
theorem dX9_group_80 : decode cX9_group 80 = .ok (.getfield 243, 3) := by decide +kernel
theorem dX9_group_83 : decode cX9_group 83 = .ok (.ireturn, 1) := by decide +kernel
theorem dX9_group_84 : decode cX9_group 84 = .ok (.aload_n 3, 1) := by decide +kernel
theorem dX9_group_85 : decode cX9_group 85 = .ok (.getfield 232, 3) := by decide +kernel
theorem dX9_group_88 : decode cX9_group 88 = .ok (.ireturn, 1) := by decide +kernel
theorem dX9_group_89 : decode cX9_group 89 = .ok (.aload_n 3, 1) := by decide +kernel
theorem dX9_group_90 : decode cX9_group 90 = .ok (.getfield 225, 3) := by decide +kernel
theorem dX9_group_93 : decode cX9_group 93 = .ok (.ireturn, 1) := by decide +kernel
theorem dX9_group_94 : decode cX9_group 94 = .ok (.ldc 238, 2) := by decide +kernel
theorem dX9_group_96 : decode cX9_group 96 = .ok (.ireturn, 1) := by decide +kernel
theorem dX9_breaks_0 : decode cX9_breaks 0 = .ok (.iload_n 1, 1) := by decide +kernel
theorem dX9_breaks_1 : decode cX9_breaks 1 = .ok (.invokestatic 69, 3) := by decide +kernel
theorem dX9_breaks_4 : decode cX9_breaks 4 = .ok (.ifCond .eq 24, 3) := by decide +kernel
theorem dX9_breaks_7 : decode cX9_breaks 7 = .ok (.iload_n 2, 1) := by decide +kernel
theorem dX9_breaks_8 : decode cX9_breaks 8 = .ok (.ifCond .lt 20, 3) := by decide +kernel
theorem dX9_breaks_11 : decode cX9_breaks 11 = .ok (.aload_n 0, 1) := by decide +kernel
theorem dX9_breaks_12 : decode cX9_breaks 12 = .ok (.getfield 12, 3) := by decide +kernel
theorem dX9_breaks_15 : decode cX9_breaks 15 = .ok (.iload_n 1, 1) := by decide +kernel
theorem dX9_breaks_16 : decode cX9_breaks 16 = .ok (.aaload, 1) := by decide +kernel
theorem dX9_breaks_17 : decode cX9_breaks 17 = .ok (.iload_n 2, 1) := by decide +kernel
theorem dX9_breaks_18 : decode cX9_breaks 18 = .ok (.aload_n 0, 1) := by decide +kernel
theorem dX9_breaks_19 : decode cX9_breaks 19 = .ok (.getfield 56, 3) := by decide +kernel
theorem dX9_breaks_22 : decode cX9_breaks 22 = .ok (.invokevirtual 132, 3) := by decide +kernel
theorem dX9_breaks_25 : decode cX9_breaks 25 = .ok (.goto 4, 3) := by decide +kernel
theorem dX9_breaks_28 : decode cX9_breaks 28 = .ok (.iconst (-1), 1) := by decide +kernel
theorem dX9_breaks_29 : decode cX9_breaks 29 = .ok (.ireturn, 1) := by decide +kernel
theorem dX9_broken_0 : decode cX9_broken 0 = .ok (.iload_n 1, 1) := by decide +kernel
theorem dX9_broken_1 : decode cX9_broken 1 = .ok (.invokestatic 69, 3) := by decide +kernel
theorem dX9_broken_4 : decode cX9_broken 4 = .ok (.ifCond .eq 16, 3) := by decide +kernel
theorem dX9_broken_7 : decode cX9_broken 7 = .ok (.aload_n 0, 1) := by decide +kernel
theorem dX9_broken_8 : decode cX9_broken 8 = .ok (.getfield 12, 3) := by decide +kernel
theorem dX9_broken_11 : decode cX9_broken 11 = .ok (.iload_n 1, 1) := by decide +kernel
theorem dX9_broken_12 : decode cX9_broken 12 = .ok (.aaload, 1) := by decide +kernel
theorem dX9_broken_13 : decode cX9_broken 13 = .ok (.iload_n 2, 1) := by decide +kernel
theorem dX9_broken_14 : decode cX9_broken 14 = .ok (.invokevirtual 246, 3) := by decide +kernel
theorem dX9_broken_17 : decode cX9_broken 17 = .ok (.goto 4, 3) := by decide +kernel
theorem dX9_broken_20 : decode cX9_broken 20 = .ok (.iconst (-1), 1) := by decide +kernel
theorem dX9_broken_21 : decode cX9_broken 21 = .ok (.ireturn, 1) := by decide +kernel
theorem dX9_sum_0 : decode cX9_sum 0 = .ok (.iload_n 1, 1) := by decide +kernel
theorem dX9_sum_1 : decode cX9_sum 1 = .ok (.tableswitch 65 0 3 #[31, 37, 48, 59], 31) := by decide +kernel
theorem dX9_sum_32 : decode cX9_sum 32 = .ok (.aload_n 0, 1) := by decide +kernel
theorem dX9_sum_33 : decode cX9_sum 33 = .ok (.invokevirtual 249, 3) := by decide +kernel
theorem dX9_sum_36 : decode cX9_sum 36 = .ok (.i2l, 1) := by decide +kernel
theorem dX9_sum_37 : decode cX9_sum 37 = .ok (.lreturn, 1) := by decide +kernel
theorem dX9_sum_38 : decode cX9_sum 38 = .ok (.aload_n 0, 1) := by decide +kernel
theorem dX9_sum_39 : decode cX9_sum 39 = .ok (.getfield 12, 3) := by decide +kernel
theorem dX9_sum_42 : decode cX9_sum 42 = .ok (.iconst 0, 1) := by decide +kernel
theorem dX9_sum_43 : decode cX9_sum 43 = .ok (.aaload, 1) := by decide +kernel
theorem dX9_sum_44 : decode cX9_sum 44 = .ok (.invokevirtual 252, 3) := by decide +kernel
theorem dX9_sum_47 : decode cX9_sum 47 = .ok (.i2l, 1) := by decide +kernel
theorem dX9_sum_48 : decode cX9_sum 48 = .ok (.lreturn, 1) := by decide +kernel
theorem dX9_sum_49 : decode cX9_sum 49 = .ok (.aload_n 0, 1) := by decide +kernel
theorem dX9_sum_50 : decode cX9_sum 50 = .ok (.getfield 12, 3) := by decide +kernel
theorem dX9_sum_53 : decode cX9_sum 53 = .ok (.iconst 1, 1) := by decide +kernel
theorem dX9_sum_54 : decode cX9_sum 54 = .ok (.aaload, 1) := by decide +kernel
theorem dX9_sum_55 : decode cX9_sum 55 = .ok (.invokevirtual 252, 3) := by decide +kernel
theorem dX9_sum_58 : decode cX9_sum 58 = .ok (.i2l, 1) := by decide +kernel
theorem dX9_sum_59 : decode cX9_sum 59 = .ok (.lreturn, 1) := by decide +kernel
theorem dX9_sum_60 : decode cX9_sum 60 = .ok (.aload_n 0, 1) := by decide +kernel
theorem dX9_sum_61 : decode cX9_sum 61 = .ok (.invokevirtual 255, 3) := by decide +kernel
theorem dX9_sum_64 : decode cX9_sum 64 = .ok (.i2l, 1) := by decide +kernel
theorem dX9_sum_65 : decode cX9_sum 65 = .ok (.lreturn, 1) := by decide +kernel
theorem dX9_sum_66 : decode cX9_sum 66 = .ok (.lconst 0, 1) := by decide +kernel
theorem dX9_sum_67 : decode cX9_sum 67 = .ok (.lreturn, 1) := by decide +kernel
theorem dX9_as_0 : decode cX9_as 0 = .ok (.iload_n 1, 1) := by decide +kernel
theorem dX9_as_1 : decode cX9_as 1 = .ok (.iconst 0, 1) := by decide +kernel
theorem dX9_as_2 : decode cX9_as 2 = .ok (.aload_n 0, 1) := by decide +kernel
theorem dX9_as_3 : decode cX9_as 3 = .ok (.getfield 56, 3) := by decide +kernel
theorem dX9_as_6 : decode cX9_as 6 = .ok (.invokestatic 75, 3) := by decide +kernel
theorem dX9_as_9 : decode cX9_as 9 = .ok (.ifCond .eq 12, 3) := by decide +kernel
theorem dX9_as_12 : decode cX9_as 12 = .ok (.iload_n 2, 1) := by decide +kernel
theorem dX9_as_13 : decode cX9_as 13 = .ok (.iconst 0, 1) := by decide +kernel
theorem dX9_as_14 : decode cX9_as 14 = .ok (.iconst 2, 1) := by decide +kernel
theorem dX9_as_15 : decode cX9_as 15 = .ok (.invokestatic 75, 3) := by decide +kernel
theorem dX9_as_18 : decode cX9_as 18 = .ok (.ifCond .ne 7, 3) := by decide +kernel
theorem dX9_as_21 : decode cX9_as 21 = .ok (.ldc2_w 258, 3) := by decide +kernel
theorem dX9_as_24 : decode cX9_as 24 = .ok (.lreturn, 1) := by decide +kernel
theorem dX9_as_25 : decode cX9_as 25 = .ok (.aload_n 0, 1) := by decide +kernel
theorem dX9_as_26 : decode cX9_as 26 = .ok (.iload_n 1, 1) := by decide +kernel
theorem dX9_as_27 : decode cX9_as 27 = .ok (.invokevirtual 260, 3) := by decide +kernel
theorem dX9_as_30 : decode cX9_as 30 = .ok (.istore_n 3, 1) := by decide +kernel
theorem dX9_as_31 : decode cX9_as 31 = .ok (.iload_n 2, 1) := by decide +kernel
theorem dX9_as_32 : decode cX9_as 32 = .ok (.lookupswitch 74 #[(0, 28), (1, 51)], 28) := by decide +kernel
theorem dX9_as_60 : decode cX9_as 60 = .ok (.aload_n 0, 1) := by decide +kernel
theorem dX9_as_61 : decode cX9_as 61 = .ok (.getfield 12, 3) := by decide +kernel
theorem dX9_as_64 : decode cX9_as 64 = .ok (.iconst 0, 1) := by decide +kernel
theorem dX9_as_65 : decode cX9_as 65 = .ok (.aaload, 1) := by decide +kernel
theorem dX9_as_66 : decode cX9_as 66 = .ok (.iload_n 1, 1) := by decide +kernel
theorem dX9_as_67 : decode cX9_as 67 = .ok (.invokevirtual 263, 3) := by decide +kernel
theorem dX9_as_70 : decode cX9_as 70 = .ok (.aload_n 0, 1) := by decide +kernel
theorem dX9_as_71 : decode cX9_as 71 = .ok (.getfield 12, 3) := by decide +kernel
theorem dX9_as_74 : decode cX9_as 74 = .ok (.iconst 1, 1) := by decide +kernel
theorem dX9_as_75 : decode cX9_as 75 = .ok (.aaload, 1) := by decide +kernel
theorem dX9_as_76 : decode cX9_as 76 = .ok (.iload_n 1, 1) := by decide +kernel
theorem dX9_as_77 : decode cX9_as 77 = .ok (.invokevirtual 263, 3) := by decide +kernel
theorem dX9_as_80 : decode cX9_as 80 = .ok (.iadd, 1) := by decide +kernel
theorem dX9_as_81 : decode cX9_as 81 = .ok (.i2l, 1) := by decide +kernel
theorem dX9_as_82 : decode cX9_as 82 = .ok (.lreturn, 1) := by decide +kernel
theorem dX9_as_83 : decode cX9_as 83 = .ok (.aload_n 0, 1) := by decide +kernel
theorem dX9_as_84 : decode cX9_as 84 = .ok (.getfield 12, 3) := by decide +kernel
theorem dX9_as_87 : decode cX9_as 87 = .ok (.iconst 0, 1) := by decide +kernel
theorem dX9_as_88 : decode cX9_as 88 = .ok (.aaload, 1) := by decide +kernel
theorem dX9_as_89 : decode cX9_as 89 = .ok (.iload_n 1, 1) := by decide +kernel
theorem dX9_as_90 : decode cX9_as 90 = .ok (.invokevirtual 266, 3) := by decide +kernel
theorem dX9_as_93 : decode cX9_as 93 = .ok (.aload_n 0, 1) := by decide +kernel
theorem dX9_as_94 : decode cX9_as 94 = .ok (.getfield 12, 3) := by decide +kernel
theorem dX9_as_97 : decode cX9_as 97 = .ok (.iconst 1, 1) := by decide +kernel
theorem dX9_as_98 : decode cX9_as 98 = .ok (.aaload, 1) := by decide +kernel
theorem dX9_as_99 : decode cX9_as 99 = .ok (.iload_n 1, 1) := by decide +kernel
theorem dX9_as_100 : decode cX9_as 100 = .ok (.invokevirtual 266, 3) := by decide +kernel
theorem dX9_as_103 : decode cX9_as 103 = .ok (.isub, 1) := by decide +kernel
theorem dX9_as_104 : decode cX9_as 104 = .ok (.i2l, 1) := by decide +kernel
theorem dX9_as_105 : decode cX9_as 105 = .ok (.lreturn, 1) := by decide +kernel
theorem dX9_as_106 : decode cX9_as 106 = .ok (.iload_n 3, 1) := by decide +kernel
theorem dX9_as_107 : decode cX9_as 107 = .ok (.i2l, 1) := by decide +kernel
theorem dX9_as_108 : decode cX9_as 108 = .ok (.lreturn, 1) := by decide +kernel
theorem dX9_explain_0 : decode cX9_explain 0 = .ok (.aload_n 0, 1) := by decide +kernel
theorem dX9_explain_1 : decode cX9_explain 1 = .ok (.getfield 12, 3) := by decide +kernel
theorem dX9_explain_4 : decode cX9_explain 4 = .ok (.iconst 0, 1) := by decide +kernel
theorem dX9_explain_5 : decode cX9_explain 5 = .ok (.aaload, 1) := by decide +kernel
theorem dX9_explain_6 : decode cX9_explain 6 = .ok (.iconst 0, 1) := by decide +kernel
theorem dX9_explain_7 : decode cX9_explain 7 = .ok (.aload_n 0, 1) := by decide +kernel
theorem dX9_explain_8 : decode cX9_explain 8 = .ok (.getfield 56, 3) := by decide +kernel
theorem dX9_explain_11 : decode cX9_explain 11 = .ok (.invokevirtual 132, 3) := by decide +kernel
theorem dX9_explain_14 : decode cX9_explain 14 = .ok (.aload_n 0, 1) := by decide +kernel
theorem dX9_explain_15 : decode cX9_explain 15 = .ok (.getfield 12, 3) := by decide +kernel
theorem dX9_explain_18 : decode cX9_explain 18 = .ok (.iconst 1, 1) := by decide +kernel
theorem dX9_explain_19 : decode cX9_explain 19 = .ok (.aaload, 1) := by decide +kernel
theorem dX9_explain_20 : decode cX9_explain 20 = .ok (.iconst 0, 1) := by decide +kernel
theorem dX9_explain_21 : decode cX9_explain 21 = .ok (.aload_n 0, 1) := by decide +kernel
theorem dX9_explain_22 : decode cX9_explain 22 = .ok (.getfield 56, 3) := by decide +kernel
theorem dX9_explain_25 : decode cX9_explain 25 = .ok (.invokevirtual 132, 3) := by decide +kernel
theorem dX9_explain_28 : decode cX9_explain 28 = .ok (.iadd, 1) := by decide +kernel
theorem dX9_explain_29 : decode cX9_explain 29 = .ok (.aload_n 0, 1) := by decide +kernel
theorem dX9_explain_30 : decode cX9_explain 30 = .ok (.invokevirtual 269, 3) := by decide +kernel
theorem dX9_explain_33 : decode cX9_explain 33 = .ok (.iadd, 1) := by decide +kernel
theorem dX9_explain_34 : decode cX9_explain 34 = .ok (.bipush 18, 2) := by decide +kernel
theorem dX9_explain_36 : decode cX9_explain 36 = .ok (.if_icmp .le 6, 3) := by decide +kernel
theorem dX9_explain_39 : decode cX9_explain 39 = .ok (.bipush (-4), 2) := by decide +kernel
theorem dX9_explain_41 : decode cX9_explain 41 = .ok (.ireturn, 1) := by decide +kernel
theorem dX9_explain_42 : decode cX9_explain 42 = .ok (.aload_n 0, 1) := by decide +kernel
theorem dX9_explain_43 : decode cX9_explain 43 = .ok (.getfield 48, 3) := by decide +kernel
theorem dX9_explain_46 : decode cX9_explain 46 = .ok (.invokevirtual 272, 3) := by decide +kernel
theorem dX9_explain_49 : decode cX9_explain 49 = .ok (.aload_n 0, 1) := by decide +kernel
theorem dX9_explain_50 : decode cX9_explain 50 = .ok (.getfield 48, 3) := by decide +kernel
theorem dX9_explain_53 : decode cX9_explain 53 = .ok (.aload_n 0, 1) := by decide +kernel
theorem dX9_explain_54 : decode cX9_explain 54 = .ok (.getfield 12, 3) := by decide +kernel
theorem dX9_explain_57 : decode cX9_explain 57 = .ok (.iconst 0, 1) := by decide +kernel
theorem dX9_explain_58 : decode cX9_explain 58 = .ok (.aaload, 1) := by decide +kernel
theorem dX9_explain_59 : decode cX9_explain 59 = .ok (.iconst 1, 1) := by decide +kernel
theorem dX9_explain_60 : decode cX9_explain 60 = .ok (.invokevirtual 275, 3) := by decide +kernel
theorem dX9_explain_63 : decode cX9_explain 63 = .ok (.aload_n 0, 1) := by decide +kernel
theorem dX9_explain_64 : decode cX9_explain 64 = .ok (.getfield 48, 3) := by decide +kernel
theorem dX9_explain_67 : decode cX9_explain 67 = .ok (.aload_n 0, 1) := by decide +kernel
theorem dX9_explain_68 : decode cX9_explain 68 = .ok (.getfield 12, 3) := by decide +kernel
theorem dX9_explain_71 : decode cX9_explain 71 = .ok (.iconst 1, 1) := by decide +kernel
theorem dX9_explain_72 : decode cX9_explain 72 = .ok (.aaload, 1) := by decide +kernel
theorem dX9_explain_73 : decode cX9_explain 73 = .ok (.iconst (-1), 1) := by decide +kernel
theorem dX9_explain_74 : decode cX9_explain 74 = .ok (.invokevirtual 275, 3) := by decide +kernel
theorem dX9_explain_77 : decode cX9_explain 77 = .ok (.iconst 0, 1) := by decide +kernel
theorem dX9_explain_78 : decode cX9_explain 78 = .ok (.istore_n 1, 1) := by decide +kernel
theorem dX9_explain_79 : decode cX9_explain 79 = .ok (.iload_n 1, 1) := by decide +kernel
theorem dX9_explain_80 : decode cX9_explain 80 = .ok (.aload_n 0, 1) := by decide +kernel
theorem dX9_explain_81 : decode cX9_explain 81 = .ok (.getfield 52, 3) := by decide +kernel
theorem dX9_explain_84 : decode cX9_explain 84 = .ok (.if_icmp .ge 39, 3) := by decide +kernel
theorem dX9_explain_87 : decode cX9_explain 87 = .ok (.aload_n 0, 1) := by decide +kernel
theorem dX9_explain_88 : decode cX9_explain 88 = .ok (.getfield 20, 3) := by decide +kernel
