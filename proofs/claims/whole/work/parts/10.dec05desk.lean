theorem dX9_explain_91 : decode cX9_explain 91 = .ok (.iload_n 1, 1) := by decide +kernel
theorem dX9_explain_92 : decode cX9_explain 92 = .ok (.aaload, 1) := by decide +kernel
theorem dX9_explain_93 : decode cX9_explain 93 = .ok (.invokevirtual 279, 3) := by decide +kernel
theorem dX9_explain_96 : decode cX9_explain 96 = .ok (.ifCond .eq 21, 3) := by decide +kernel
theorem dX9_explain_99 : decode cX9_explain 99 = .ok (.aload_n 0, 1) := by decide +kernel
theorem dX9_explain_100 : decode cX9_explain 100 = .ok (.getfield 48, 3) := by decide +kernel
theorem dX9_explain_103 : decode cX9_explain 103 = .ok (.iconst 2, 1) := by decide +kernel
theorem dX9_explain_104 : decode cX9_explain 104 = .ok (.iload_n 1, 1) := by decide +kernel
theorem dX9_explain_105 : decode cX9_explain 105 = .ok (.aload_n 0, 1) := by decide +kernel
theorem dX9_explain_106 : decode cX9_explain 106 = .ok (.getfield 20, 3) := by decide +kernel
theorem dX9_explain_109 : decode cX9_explain 109 = .ok (.iload_n 1, 1) := by decide +kernel
theorem dX9_explain_110 : decode cX9_explain 110 = .ok (.aaload, 1) := by decide +kernel
theorem dX9_explain_111 : decode cX9_explain 111 = .ok (.invokevirtual 239, 3) := by decide +kernel
theorem dX9_explain_114 : decode cX9_explain 114 = .ok (.invokevirtual 282, 3) := by decide +kernel
theorem dX9_explain_117 : decode cX9_explain 117 = .ok (.iinc 1 1, 3) := by decide +kernel
theorem dX9_explain_120 : decode cX9_explain 120 = .ok (.goto (-41), 3) := by decide +kernel
theorem dX9_explain_123 : decode cX9_explain 123 = .ok (.aload_n 0, 1) := by decide +kernel
theorem dX9_explain_124 : decode cX9_explain 124 = .ok (.getfield 48, 3) := by decide +kernel
theorem dX9_explain_127 : decode cX9_explain 127 = .ok (.aload_n 0, 1) := by decide +kernel
theorem dX9_explain_128 : decode cX9_explain 128 = .ok (.invokevirtual 249, 3) := by decide +kernel
theorem dX9_explain_131 : decode cX9_explain 131 = .ok (.invokevirtual 285, 3) := by decide +kernel
theorem dX9_explain_134 : decode cX9_explain 134 = .ok (.ifCond .eq 13, 3) := by decide +kernel
theorem dX9_explain_137 : decode cX9_explain 137 = .ok (.aload_n 0, 1) := by decide +kernel
theorem dX9_explain_138 : decode cX9_explain 138 = .ok (.getfield 48, 3) := by decide +kernel
theorem dX9_explain_141 : decode cX9_explain 141 = .ok (.getfield 287, 3) := by decide +kernel
theorem dX9_explain_144 : decode cX9_explain 144 = .ok (.goto 5, 3) := by decide +kernel
theorem dX9_explain_147 : decode cX9_explain 147 = .ok (.bipush (-6), 2) := by decide +kernel
theorem dX9_explain_149 : decode cX9_explain 149 = .ok (.ireturn, 1) := by decide +kernel
theorem dX9_explained_0 : decode cX9_explained 0 = .ok (.iload_n 1, 1) := by decide +kernel
theorem dX9_explained_1 : decode cX9_explained 1 = .ok (.iconst 0, 1) := by decide +kernel
theorem dX9_explained_2 : decode cX9_explained 2 = .ok (.aload_n 0, 1) := by decide +kernel
theorem dX9_explained_3 : decode cX9_explained 3 = .ok (.getfield 48, 3) := by decide +kernel
theorem dX9_explained_6 : decode cX9_explained 6 = .ok (.getfield 287, 3) := by decide +kernel
theorem dX9_explained_9 : decode cX9_explained 9 = .ok (.iconst 1, 1) := by decide +kernel
theorem dX9_explained_10 : decode cX9_explained 10 = .ok (.isub, 1) := by decide +kernel
theorem dX9_explained_11 : decode cX9_explained 11 = .ok (.invokestatic 75, 3) := by decide +kernel
theorem dX9_explained_14 : decode cX9_explained 14 = .ok (.ifCond .ne 5, 3) := by decide +kernel
theorem dX9_explained_17 : decode cX9_explained 17 = .ok (.iconst (-1), 1) := by decide +kernel
theorem dX9_explained_18 : decode cX9_explained 18 = .ok (.ireturn, 1) := by decide +kernel
theorem dX9_explained_19 : decode cX9_explained 19 = .ok (.iload_n 2, 1) := by decide +kernel
theorem dX9_explained_20 : decode cX9_explained 20 = .ok (.lookupswitch 48 #[(0, 28), (1, 38)], 28) := by decide +kernel
theorem dX9_explained_48 : decode cX9_explained 48 = .ok (.aload_n 0, 1) := by decide +kernel
theorem dX9_explained_49 : decode cX9_explained 49 = .ok (.getfield 48, 3) := by decide +kernel
theorem dX9_explained_52 : decode cX9_explained 52 = .ok (.getfield 288, 3) := by decide +kernel
theorem dX9_explained_55 : decode cX9_explained 55 = .ok (.iload_n 1, 1) := by decide +kernel
theorem dX9_explained_56 : decode cX9_explained 56 = .ok (.iaload, 1) := by decide +kernel
theorem dX9_explained_57 : decode cX9_explained 57 = .ok (.ireturn, 1) := by decide +kernel
theorem dX9_explained_58 : decode cX9_explained 58 = .ok (.aload_n 0, 1) := by decide +kernel
theorem dX9_explained_59 : decode cX9_explained 59 = .ok (.getfield 48, 3) := by decide +kernel
theorem dX9_explained_62 : decode cX9_explained 62 = .ok (.getfield 291, 3) := by decide +kernel
theorem dX9_explained_65 : decode cX9_explained 65 = .ok (.iload_n 1, 1) := by decide +kernel
theorem dX9_explained_66 : decode cX9_explained 66 = .ok (.iaload, 1) := by decide +kernel
theorem dX9_explained_67 : decode cX9_explained 67 = .ok (.ireturn, 1) := by decide +kernel
theorem dX9_explained_68 : decode cX9_explained 68 = .ok (.iconst (-1), 1) := by decide +kernel
theorem dX9_explained_69 : decode cX9_explained 69 = .ok (.ireturn, 1) := by decide +kernel
theorem dX9_undo_0 : decode cX9_undo 0 = .ok (.aload_n 0, 1) := by decide +kernel
theorem dX9_undo_1 : decode cX9_undo 1 = .ok (.getfield 27, 3) := by decide +kernel
theorem dX9_undo_4 : decode cX9_undo 4 = .ok (.getfield 294, 3) := by decide +kernel
theorem dX9_undo_7 : decode cX9_undo 7 = .ok (.ifCond .ne 5, 3) := by decide +kernel
theorem dX9_undo_10 : decode cX9_undo 10 = .ok (.iconst (-1), 1) := by decide +kernel
theorem dX9_undo_11 : decode cX9_undo 11 = .ok (.ireturn, 1) := by decide +kernel
theorem dX9_undo_12 : decode cX9_undo 12 = .ok (.aload_n 0, 1) := by decide +kernel
theorem dX9_undo_13 : decode cX9_undo 13 = .ok (.getfield 27, 3) := by decide +kernel
theorem dX9_undo_16 : decode cX9_undo 16 = .ok (.invokevirtual 295, 3) := by decide +kernel
theorem dX9_undo_19 : decode cX9_undo 19 = .ok (.istore_n 1, 1) := by decide +kernel
theorem dX9_undo_20 : decode cX9_undo 20 = .ok (.aload_n 0, 1) := by decide +kernel
theorem dX9_undo_21 : decode cX9_undo 21 = .ok (.aload_n 0, 1) := by decide +kernel
theorem dX9_undo_22 : decode cX9_undo 22 = .ok (.getfield 27, 3) := by decide +kernel
theorem dX9_undo_25 : decode cX9_undo 25 = .ok (.getfield 298, 3) := by decide +kernel
theorem dX9_undo_28 : decode cX9_undo 28 = .ok (.iload_n 1, 1) := by decide +kernel
theorem dX9_undo_29 : decode cX9_undo 29 = .ok (.iaload, 1) := by decide +kernel
theorem dX9_undo_30 : decode cX9_undo 30 = .ok (.aload_n 0, 1) := by decide +kernel
theorem dX9_undo_31 : decode cX9_undo 31 = .ok (.getfield 27, 3) := by decide +kernel
theorem dX9_undo_34 : decode cX9_undo 34 = .ok (.getfield 301, 3) := by decide +kernel
theorem dX9_undo_37 : decode cX9_undo 37 = .ok (.iload_n 1, 1) := by decide +kernel
theorem dX9_undo_38 : decode cX9_undo 38 = .ok (.iaload, 1) := by decide +kernel
theorem dX9_undo_39 : decode cX9_undo 39 = .ok (.aload_n 0, 1) := by decide +kernel
theorem dX9_undo_40 : decode cX9_undo 40 = .ok (.getfield 27, 3) := by decide +kernel
theorem dX9_undo_43 : decode cX9_undo 43 = .ok (.getfield 304, 3) := by decide +kernel
theorem dX9_undo_46 : decode cX9_undo 46 = .ok (.iload_n 1, 1) := by decide +kernel
theorem dX9_undo_47 : decode cX9_undo 47 = .ok (.iaload, 1) := by decide +kernel
theorem dX9_undo_48 : decode cX9_undo 48 = .ok (.invokevirtual 307, 3) := by decide +kernel
theorem dX9_undo_51 : decode cX9_undo 51 = .ok (.aload_n 0, 1) := by decide +kernel
theorem dX9_undo_52 : decode cX9_undo 52 = .ok (.dup, 1) := by decide +kernel
theorem dX9_undo_53 : decode cX9_undo 53 = .ok (.getfield 65, 3) := by decide +kernel
theorem dX9_undo_56 : decode cX9_undo 56 = .ok (.iconst 1, 1) := by decide +kernel
theorem dX9_undo_57 : decode cX9_undo 57 = .ok (.iadd, 1) := by decide +kernel
theorem dX9_undo_58 : decode cX9_undo 58 = .ok (.putfield 65, 3) := by decide +kernel
theorem dX9_undo_61 : decode cX9_undo 61 = .ok (.aload_n 0, 1) := by decide +kernel
theorem dX9_undo_62 : decode cX9_undo 62 = .ok (.getfield 27, 3) := by decide +kernel
theorem dX9_undo_65 : decode cX9_undo 65 = .ok (.getfield 294, 3) := by decide +kernel
theorem dX9_undo_68 : decode cX9_undo 68 = .ok (.ireturn, 1) := by decide +kernel
theorem dX9_count_0 : decode cX9_count 0 = .ok (.iload_n 1, 1) := by decide +kernel
theorem dX9_count_1 : decode cX9_count 1 = .ok (.tableswitch 82 0 5 #[39, 49, 59, 64, 69, 77], 39) := by decide +kernel
theorem dX9_count_40 : decode cX9_count 40 = .ok (.aload_n 0, 1) := by decide +kernel
theorem dX9_count_41 : decode cX9_count 41 = .ok (.getfield 12, 3) := by decide +kernel
theorem dX9_count_44 : decode cX9_count 44 = .ok (.iconst 0, 1) := by decide +kernel
theorem dX9_count_45 : decode cX9_count 45 = .ok (.aaload, 1) := by decide +kernel
theorem dX9_count_46 : decode cX9_count 46 = .ok (.getfield 80, 3) := by decide +kernel
theorem dX9_count_49 : decode cX9_count 49 = .ok (.ireturn, 1) := by decide +kernel
theorem dX9_count_50 : decode cX9_count 50 = .ok (.aload_n 0, 1) := by decide +kernel
theorem dX9_count_51 : decode cX9_count 51 = .ok (.getfield 12, 3) := by decide +kernel
theorem dX9_count_54 : decode cX9_count 54 = .ok (.iconst 1, 1) := by decide +kernel
theorem dX9_count_55 : decode cX9_count 55 = .ok (.aaload, 1) := by decide +kernel
theorem dX9_count_56 : decode cX9_count 56 = .ok (.getfield 80, 3) := by decide +kernel
theorem dX9_count_59 : decode cX9_count 59 = .ok (.ireturn, 1) := by decide +kernel
theorem dX9_count_60 : decode cX9_count 60 = .ok (.aload_n 0, 1) := by decide +kernel
theorem dX9_count_61 : decode cX9_count 61 = .ok (.getfield 52, 3) := by decide +kernel
theorem dX9_count_64 : decode cX9_count 64 = .ok (.ireturn, 1) := by decide +kernel
theorem dX9_count_65 : decode cX9_count 65 = .ok (.aload_n 0, 1) := by decide +kernel
theorem dX9_count_66 : decode cX9_count 66 = .ok (.invokevirtual 310, 3) := by decide +kernel
theorem dX9_count_69 : decode cX9_count 69 = .ok (.ireturn, 1) := by decide +kernel
theorem dX9_count_70 : decode cX9_count 70 = .ok (.aload_n 0, 1) := by decide +kernel
theorem dX9_count_71 : decode cX9_count 71 = .ok (.getfield 27, 3) := by decide +kernel
theorem dX9_count_74 : decode cX9_count 74 = .ok (.getfield 294, 3) := by decide +kernel
theorem dX9_count_77 : decode cX9_count 77 = .ok (.ireturn, 1) := by decide +kernel
theorem dX9_count_78 : decode cX9_count 78 = .ok (.aload_n 0, 1) := by decide +kernel
theorem dX9_count_79 : decode cX9_count 79 = .ok (.getfield 56, 3) := by decide +kernel
theorem dX9_count_82 : decode cX9_count 82 = .ok (.ireturn, 1) := by decide +kernel
theorem dX9_count_83 : decode cX9_count 83 = .ok (.iconst (-1), 1) := by decide +kernel
theorem dX9_count_84 : decode cX9_count 84 = .ok (.ireturn, 1) := by decide +kernel
theorem dX9_check_0 : decode cX9_check 0 = .ok (.aload_n 0, 1) := by decide +kernel
theorem dX9_check_1 : decode cX9_check 1 = .ok (.aload_n 0, 1) := by decide +kernel
theorem dX9_check_2 : decode cX9_check 2 = .ok (.getfield 56, 3) := by decide +kernel
theorem dX9_check_5 : decode cX9_check 5 = .ok (.invokevirtual 260, 3) := by decide +kernel
theorem dX9_check_8 : decode cX9_check 8 = .ok (.pop, 1) := by decide +kernel
theorem dX9_check_9 : decode cX9_check 9 = .ok (.iconst 0, 1) := by decide +kernel
theorem dX9_check_10 : decode cX9_check 10 = .ok (.istore_n 1, 1) := by decide +kernel
theorem dX9_check_11 : decode cX9_check 11 = .ok (.aload_n 0, 1) := by decide +kernel
theorem dX9_check_12 : decode cX9_check 12 = .ok (.getfield 12, 3) := by decide +kernel
theorem dX9_check_15 : decode cX9_check 15 = .ok (.iconst 0, 1) := by decide +kernel
theorem dX9_check_16 : decode cX9_check 16 = .ok (.aaload, 1) := by decide +kernel
theorem dX9_check_17 : decode cX9_check 17 = .ok (.invokevirtual 313, 3) := by decide +kernel
theorem dX9_check_20 : decode cX9_check 20 = .ok (.ifCond .eq 15, 3) := by decide +kernel
theorem dX9_check_23 : decode cX9_check 23 = .ok (.aload_n 0, 1) := by decide +kernel
theorem dX9_check_24 : decode cX9_check 24 = .ok (.getfield 12, 3) := by decide +kernel
theorem dX9_check_27 : decode cX9_check 27 = .ok (.iconst 1, 1) := by decide +kernel
theorem dX9_check_28 : decode cX9_check 28 = .ok (.aaload, 1) := by decide +kernel
theorem dX9_check_29 : decode cX9_check 29 = .ok (.invokevirtual 313, 3) := by decide +kernel
theorem dX9_check_32 : decode cX9_check 32 = .ok (.ifCond .ne 6, 3) := by decide +kernel
theorem dX9_check_35 : decode cX9_check 35 = .ok (.iinc 1 1, 3) := by decide +kernel
theorem dX9_check_38 : decode cX9_check 38 = .ok (.aload_n 0, 1) := by decide +kernel
theorem dX9_check_39 : decode cX9_check 39 = .ok (.invokevirtual 249, 3) := by decide +kernel
theorem dX9_check_42 : decode cX9_check 42 = .ok (.aload_n 0, 1) := by decide +kernel
theorem dX9_check_43 : decode cX9_check 43 = .ok (.getfield 12, 3) := by decide +kernel
theorem dX9_check_46 : decode cX9_check 46 = .ok (.iconst 0, 1) := by decide +kernel
theorem dX9_check_47 : decode cX9_check 47 = .ok (.aaload, 1) := by decide +kernel
theorem dX9_check_48 : decode cX9_check 48 = .ok (.invokevirtual 252, 3) := by decide +kernel
theorem dX9_check_51 : decode cX9_check 51 = .ok (.aload_n 0, 1) := by decide +kernel
theorem dX9_check_52 : decode cX9_check 52 = .ok (.getfield 12, 3) := by decide +kernel
theorem dX9_check_55 : decode cX9_check 55 = .ok (.iconst 1, 1) := by decide +kernel
theorem dX9_check_56 : decode cX9_check 56 = .ok (.aaload, 1) := by decide +kernel
theorem dX9_check_57 : decode cX9_check 57 = .ok (.invokevirtual 252, 3) := by decide +kernel
theorem dX9_check_60 : decode cX9_check 60 = .ok (.isub, 1) := by decide +kernel
theorem dX9_check_61 : decode cX9_check 61 = .ok (.aload_n 0, 1) := by decide +kernel
theorem dX9_check_62 : decode cX9_check 62 = .ok (.invokevirtual 255, 3) := by decide +kernel
theorem dX9_check_65 : decode cX9_check 65 = .ok (.iadd, 1) := by decide +kernel
theorem dX9_check_66 : decode cX9_check 66 = .ok (.if_icmp .eq 6, 3) := by decide +kernel
theorem dX9_check_69 : decode cX9_check 69 = .ok (.iinc 1 1, 3) := by decide +kernel
theorem dX9_check_72 : decode cX9_check 72 = .ok (.aload_n 0, 1) := by decide +kernel
theorem dX9_check_73 : decode cX9_check 73 = .ok (.invokevirtual 316, 3) := by decide +kernel
theorem dX9_check_76 : decode cX9_check 76 = .ok (.ifCond .ne 6, 3) := by decide +kernel
theorem dX9_check_79 : decode cX9_check 79 = .ok (.iinc 1 1, 3) := by decide +kernel
theorem dX9_check_82 : decode cX9_check 82 = .ok (.iload_n 1, 1) := by decide +kernel
theorem dX9_check_83 : decode cX9_check 83 = .ok (.ireturn, 1) := by decide +kernel
theorem dX9_isWithin_0 : decode cX9_isWithin 0 = .ok (.iload_n 0, 1) := by decide +kernel
theorem dX9_isWithin_1 : decode cX9_isWithin 1 = .ok (.iload_n 1, 1) := by decide +kernel
theorem dX9_isWithin_2 : decode cX9_isWithin 2 = .ok (.if_icmp .lt 12, 3) := by decide +kernel
theorem dX9_isWithin_5 : decode cX9_isWithin 5 = .ok (.iload_n 0, 1) := by decide +kernel
theorem dX9_isWithin_6 : decode cX9_isWithin 6 = .ok (.iload_n 2, 1) := by decide +kernel
theorem dX9_isWithin_7 : decode cX9_isWithin 7 = .ok (.if_icmp .gt 7, 3) := by decide +kernel
theorem dX9_isWithin_10 : decode cX9_isWithin 10 = .ok (.iconst 1, 1) := by decide +kernel
theorem dX9_isWithin_11 : decode cX9_isWithin 11 = .ok (.goto 4, 3) := by decide +kernel
theorem dX9_isWithin_14 : decode cX9_isWithin 14 = .ok (.iconst 0, 1) := by decide +kernel
theorem dX9_isWithin_15 : decode cX9_isWithin 15 = .ok (.ireturn, 1) := by decide +kernel
theorem dX9_isBook_0 : decode cX9_isBook 0 = .ok (.iload_n 0, 1) := by decide +kernel
theorem dX9_isBook_1 : decode cX9_isBook 1 = .ok (.ifCond .eq 8, 3) := by decide +kernel
theorem dX9_isBook_4 : decode cX9_isBook 4 = .ok (.iload_n 0, 1) := by decide +kernel
theorem dX9_isBook_5 : decode cX9_isBook 5 = .ok (.iconst 1, 1) := by decide +kernel
theorem dX9_isBook_6 : decode cX9_isBook 6 = .ok (.if_icmp .ne 7, 3) := by decide +kernel
theorem dX9_isBook_9 : decode cX9_isBook 9 = .ok (.iconst 1, 1) := by decide +kernel
theorem dX9_isBook_10 : decode cX9_isBook 10 = .ok (.goto 4, 3) := by decide +kernel
theorem dX9_isBook_13 : decode cX9_isBook 13 = .ok (.iconst 0, 1) := by decide +kernel
theorem dX9_isBook_14 : decode cX9_isBook 14 = .ok (.ireturn, 1) := by decide +kernel
theorem dX9_lineAt_0 : decode cX9_lineAt 0 = .ok (.iload_n 1, 1) := by decide +kernel
theorem dX9_lineAt_1 : decode cX9_lineAt 1 = .ok (.invokestatic 69, 3) := by decide +kernel
theorem dX9_lineAt_4 : decode cX9_lineAt 4 = .ok (.ifCond .eq 36, 3) := by decide +kernel
theorem dX9_lineAt_7 : decode cX9_lineAt 7 = .ok (.iload_n 2, 1) := by decide +kernel
theorem dX9_lineAt_8 : decode cX9_lineAt 8 = .ok (.iconst 0, 1) := by decide +kernel
theorem dX9_lineAt_9 : decode cX9_lineAt 9 = .ok (.aload_n 0, 1) := by decide +kernel
theorem dX9_lineAt_10 : decode cX9_lineAt 10 = .ok (.getfield 12, 3) := by decide +kernel
theorem dX9_lineAt_13 : decode cX9_lineAt 13 = .ok (.iload_n 1, 1) := by decide +kernel
theorem dX9_lineAt_14 : decode cX9_lineAt 14 = .ok (.aaload, 1) := by decide +kernel
theorem dX9_lineAt_15 : decode cX9_lineAt 15 = .ok (.getfield 80, 3) := by decide +kernel
theorem dX9_lineAt_18 : decode cX9_lineAt 18 = .ok (.iconst 1, 1) := by decide +kernel
theorem dX9_lineAt_19 : decode cX9_lineAt 19 = .ok (.isub, 1) := by decide +kernel
theorem dX9_lineAt_20 : decode cX9_lineAt 20 = .ok (.invokestatic 75, 3) := by decide +kernel
theorem dX9_lineAt_23 : decode cX9_lineAt 23 = .ok (.ifCond .eq 17, 3) := by decide +kernel
theorem dX9_lineAt_26 : decode cX9_lineAt 26 = .ok (.aload_n 0, 1) := by decide +kernel
theorem dX9_lineAt_27 : decode cX9_lineAt 27 = .ok (.getfield 12, 3) := by decide +kernel
theorem dX9_lineAt_30 : decode cX9_lineAt 30 = .ok (.iload_n 1, 1) := by decide +kernel
theorem dX9_lineAt_31 : decode cX9_lineAt 31 = .ok (.aaload, 1) := by decide +kernel
theorem dX9_lineAt_32 : decode cX9_lineAt 32 = .ok (.getfield 83, 3) := by decide +kernel
theorem dX9_lineAt_35 : decode cX9_lineAt 35 = .ok (.iload_n 2, 1) := by decide +kernel
theorem dX9_lineAt_36 : decode cX9_lineAt 36 = .ok (.aaload, 1) := by decide +kernel
theorem dX9_lineAt_37 : decode cX9_lineAt 37 = .ok (.goto 4, 3) := by decide +kernel
theorem dX9_lineAt_40 : decode cX9_lineAt 40 = .ok (.aconst_null, 1) := by decide +kernel
theorem dX9_lineAt_41 : decode cX9_lineAt 41 = .ok (.areturn, 1) := by decide +kernel
theorem dX9_isGroupThere_0 : decode cX9_isGroupThere 0 = .ok (.iload_n 1, 1) := by decide +kernel
theorem dX9_isGroupThere_1 : decode cX9_isGroupThere 1 = .ok (.iconst 0, 1) := by decide +kernel
theorem dX9_isGroupThere_2 : decode cX9_isGroupThere 2 = .ok (.aload_n 0, 1) := by decide +kernel
theorem dX9_isGroupThere_3 : decode cX9_isGroupThere 3 = .ok (.getfield 52, 3) := by decide +kernel
theorem dX9_isGroupThere_6 : decode cX9_isGroupThere 6 = .ok (.iconst 1, 1) := by decide +kernel
theorem dX9_isGroupThere_7 : decode cX9_isGroupThere 7 = .ok (.isub, 1) := by decide +kernel
theorem dX9_isGroupThere_8 : decode cX9_isGroupThere 8 = .ok (.invokestatic 75, 3) := by decide +kernel
theorem dX9_isGroupThere_11 : decode cX9_isGroupThere 11 = .ok (.ifCond .eq 19, 3) := by decide +kernel
theorem dX9_isGroupThere_14 : decode cX9_isGroupThere 14 = .ok (.aload_n 0, 1) := by decide +kernel
theorem dX9_isGroupThere_15 : decode cX9_isGroupThere 15 = .ok (.getfield 20, 3) := by decide +kernel
theorem dX9_isGroupThere_18 : decode cX9_isGroupThere 18 = .ok (.iload_n 1, 1) := by decide +kernel
theorem dX9_isGroupThere_19 : decode cX9_isGroupThere 19 = .ok (.aaload, 1) := by decide +kernel
theorem dX9_isGroupThere_20 : decode cX9_isGroupThere 20 = .ok (.invokevirtual 319, 3) := by decide +kernel
theorem dX9_isGroupThere_23 : decode cX9_isGroupThere 23 = .ok (.ifCond .eq 7, 3) := by decide +kernel
theorem dX9_isGroupThere_26 : decode cX9_isGroupThere 26 = .ok (.iconst 1, 1) := by decide +kernel
theorem dX9_isGroupThere_27 : decode cX9_isGroupThere 27 = .ok (.goto 4, 3) := by decide +kernel
theorem dX9_isGroupThere_30 : decode cX9_isGroupThere 30 = .ok (.iconst 0, 1) := by decide +kernel
theorem dX9_isGroupThere_31 : decode cX9_isGroupThere 31 = .ok (.ireturn, 1) := by decide +kernel
theorem dX9_fitOf_0 : decode cX9_fitOf 0 = .ok (.aload_n 1, 1) := by decide +kernel
theorem dX9_fitOf_1 : decode cX9_fitOf 1 = .ok (.getfield 109, 3) := by decide +kernel
theorem dX9_fitOf_4 : decode cX9_fitOf 4 = .ok (.aload_n 2, 1) := by decide +kernel
theorem dX9_fitOf_5 : decode cX9_fitOf 5 = .ok (.getfield 109, 3) := by decide +kernel
theorem dX9_fitOf_8 : decode cX9_fitOf 8 = .ok (.isub, 1) := by decide +kernel
theorem dX9_fitOf_9 : decode cX9_fitOf 9 = .ok (.invokestatic 321, 3) := by decide +kernel
theorem dX9_fitOf_12 : decode cX9_fitOf 12 = .ok (.istore_n 3, 1) := by decide +kernel
theorem dX9_fitOf_13 : decode cX9_fitOf 13 = .ok (.aload_n 1, 1) := by decide +kernel
theorem dX9_fitOf_14 : decode cX9_fitOf 14 = .ok (.getfield 106, 3) := by decide +kernel
theorem dX9_fitOf_17 : decode cX9_fitOf 17 = .ok (.aload_n 2, 1) := by decide +kernel
theorem dX9_fitOf_18 : decode cX9_fitOf 18 = .ok (.getfield 106, 3) := by decide +kernel
theorem dX9_fitOf_21 : decode cX9_fitOf 21 = .ok (.isub, 1) := by decide +kernel
theorem dX9_fitOf_22 : decode cX9_fitOf 22 = .ok (.invokestatic 321, 3) := by decide +kernel
theorem dX9_fitOf_25 : decode cX9_fitOf 25 = .ok (.istore 4, 2) := by decide +kernel
theorem dX9_fitOf_27 : decode cX9_fitOf 27 = .ok (.aload_n 1, 1) := by decide +kernel
theorem dX9_fitOf_28 : decode cX9_fitOf 28 = .ok (.getfield 115, 3) := by decide +kernel
theorem dX9_fitOf_31 : decode cX9_fitOf 31 = .ok (.ifCond .eq 14, 3) := by decide +kernel
theorem dX9_fitOf_34 : decode cX9_fitOf 34 = .ok (.aload_n 2, 1) := by decide +kernel
theorem dX9_fitOf_35 : decode cX9_fitOf 35 = .ok (.getfield 115, 3) := by decide +kernel
theorem dX9_fitOf_38 : decode cX9_fitOf 38 = .ok (.ifCond .eq 7, 3) := by decide +kernel
theorem dX9_fitOf_41 : decode cX9_fitOf 41 = .ok (.iconst 1, 1) := by decide +kernel
theorem dX9_fitOf_42 : decode cX9_fitOf 42 = .ok (.goto 4, 3) := by decide +kernel
theorem dX9_fitOf_45 : decode cX9_fitOf 45 = .ok (.iconst 0, 1) := by decide +kernel
theorem dX9_fitOf_46 : decode cX9_fitOf 46 = .ok (.istore 5, 2) := by decide +kernel
theorem dX9_fitOf_48 : decode cX9_fitOf 48 = .ok (.iload_n 3, 1) := by decide +kernel
theorem dX9_fitOf_49 : decode cX9_fitOf 49 = .ok (.aload_n 0, 1) := by decide +kernel
theorem dX9_fitOf_50 : decode cX9_fitOf 50 = .ok (.getfield 59, 3) := by decide +kernel
theorem dX9_fitOf_53 : decode cX9_fitOf 53 = .ok (.if_icmp .gt 28, 3) := by decide +kernel
theorem dX9_fitOf_56 : decode cX9_fitOf 56 = .ok (.iload 4, 2) := by decide +kernel
theorem dX9_fitOf_58 : decode cX9_fitOf 58 = .ok (.aload_n 0, 1) := by decide +kernel
theorem dX9_fitOf_59 : decode cX9_fitOf 59 = .ok (.getfield 62, 3) := by decide +kernel
theorem dX9_fitOf_62 : decode cX9_fitOf 62 = .ok (.if_icmp .gt 19, 3) := by decide +kernel
theorem dX9_fitOf_65 : decode cX9_fitOf 65 = .ok (.iload 5, 2) := by decide +kernel
theorem dX9_fitOf_67 : decode cX9_fitOf 67 = .ok (.ifCond .eq 16, 3) := by decide +kernel
theorem dX9_fitOf_70 : decode cX9_fitOf 70 = .ok (.aload_n 1, 1) := by decide +kernel
theorem dX9_fitOf_71 : decode cX9_fitOf 71 = .ok (.getfield 115, 3) := by decide +kernel
theorem dX9_fitOf_74 : decode cX9_fitOf 74 = .ok (.aload_n 2, 1) := by decide +kernel
theorem dX9_fitOf_75 : decode cX9_fitOf 75 = .ok (.getfield 115, 3) := by decide +kernel
theorem dX9_fitOf_78 : decode cX9_fitOf 78 = .ok (.if_icmp .eq 5, 3) := by decide +kernel
theorem dX9_fitOf_81 : decode cX9_fitOf 81 = .ok (.iconst 0, 1) := by decide +kernel
theorem dX9_fitOf_82 : decode cX9_fitOf 82 = .ok (.ireturn, 1) := by decide +kernel
theorem dX9_fitOf_83 : decode cX9_fitOf 83 = .ok (.bipush 100, 2) := by decide +kernel
theorem dX9_fitOf_85 : decode cX9_fitOf 85 = .ok (.iconst 2, 1) := by decide +kernel
theorem dX9_fitOf_86 : decode cX9_fitOf 86 = .ok (.iload_n 3, 1) := by decide +kernel
theorem dX9_fitOf_87 : decode cX9_fitOf 87 = .ok (.imul, 1) := by decide +kernel
theorem dX9_fitOf_88 : decode cX9_fitOf 88 = .ok (.isub, 1) := by decide +kernel
theorem dX9_fitOf_89 : decode cX9_fitOf 89 = .ok (.iload 4, 2) := by decide +kernel
theorem dX9_fitOf_91 : decode cX9_fitOf 91 = .ok (.bipush 100, 2) := by decide +kernel
theorem dX9_fitOf_93 : decode cX9_fitOf 93 = .ok (.idiv, 1) := by decide +kernel
theorem dX9_fitOf_94 : decode cX9_fitOf 94 = .ok (.isub, 1) := by decide +kernel
theorem dX9_fitOf_95 : decode cX9_fitOf 95 = .ok (.istore 6, 2) := by decide +kernel
theorem dX9_fitOf_97 : decode cX9_fitOf 97 = .ok (.iload 5, 2) := by decide +kernel
theorem dX9_fitOf_99 : decode cX9_fitOf 99 = .ok (.ifCond .eq 6, 3) := by decide +kernel
theorem dX9_fitOf_102 : decode cX9_fitOf 102 = .ok (.iinc 6 50, 3) := by decide +kernel
theorem dX9_fitOf_105 : decode cX9_fitOf 105 = .ok (.aload_n 1, 1) := by decide +kernel
theorem dX9_fitOf_106 : decode cX9_fitOf 106 = .ok (.getfield 112, 3) := by decide +kernel
theorem dX9_fitOf_109 : decode cX9_fitOf 109 = .ok (.aload_n 2, 1) := by decide +kernel
theorem dX9_fitOf_110 : decode cX9_fitOf 110 = .ok (.getfield 112, 3) := by decide +kernel
theorem dX9_fitOf_113 : decode cX9_fitOf 113 = .ok (.if_icmp .ne 6, 3) := by decide +kernel
theorem dX9_fitOf_116 : decode cX9_fitOf 116 = .ok (.iinc 6 30, 3) := by decide +kernel
theorem dX9_fitOf_119 : decode cX9_fitOf 119 = .ok (.iconst 1, 1) := by decide +kernel
theorem dX9_fitOf_120 : decode cX9_fitOf 120 = .ok (.iload 6, 2) := by decide +kernel
theorem dX9_fitOf_122 : decode cX9_fitOf 122 = .ok (.bipush 10, 2) := by decide +kernel
theorem dX9_fitOf_124 : decode cX9_fitOf 124 = .ok (.aload_n 0, 1) := by decide +kernel
theorem dX9_fitOf_125 : decode cX9_fitOf 125 = .ok (.aload_n 1, 1) := by decide +kernel
theorem dX9_fitOf_126 : decode cX9_fitOf 126 = .ok (.getfield 112, 3) := by decide +kernel
theorem dX9_fitOf_129 : decode cX9_fitOf 129 = .ok (.aload_n 2, 1) := by decide +kernel
theorem dX9_fitOf_130 : decode cX9_fitOf 130 = .ok (.getfield 112, 3) := by decide +kernel
theorem dX9_fitOf_133 : decode cX9_fitOf 133 = .ok (.invokevirtual 326, 3) := by decide +kernel
theorem dX9_fitOf_136 : decode cX9_fitOf 136 = .ok (.imul, 1) := by decide +kernel
theorem dX9_fitOf_137 : decode cX9_fitOf 137 = .ok (.iadd, 1) := by decide +kernel
theorem dX9_fitOf_138 : decode cX9_fitOf 138 = .ok (.invokestatic 329, 3) := by decide +kernel
theorem dX9_fitOf_141 : decode cX9_fitOf 141 = .ok (.ireturn, 1) := by decide +kernel
theorem dX9_learnt_0 : decode cX9_learnt 0 = .ok (.iconst 0, 1) := by decide +kernel
theorem dX9_learnt_1 : decode cX9_learnt 1 = .ok (.istore_n 3, 1) := by decide +kernel
theorem dX9_learnt_2 : decode cX9_learnt 2 = .ok (.iconst 0, 1) := by decide +kernel
theorem dX9_learnt_3 : decode cX9_learnt 3 = .ok (.istore 4, 2) := by decide +kernel
theorem dX9_learnt_5 : decode cX9_learnt 5 = .ok (.iload 4, 2) := by decide +kernel
theorem dX9_learnt_7 : decode cX9_learnt 7 = .ok (.aload_n 0, 1) := by decide +kernel
theorem dX9_learnt_8 : decode cX9_learnt 8 = .ok (.getfield 52, 3) := by decide +kernel
theorem dX9_learnt_11 : decode cX9_learnt 11 = .ok (.if_icmp .ge 63, 3) := by decide +kernel
theorem dX9_learnt_14 : decode cX9_learnt 14 = .ok (.iload_n 3, 1) := by decide +kernel
theorem dX9_learnt_15 : decode cX9_learnt 15 = .ok (.iconst 5, 1) := by decide +kernel
theorem dX9_learnt_16 : decode cX9_learnt 16 = .ok (.if_icmp .ge 58, 3) := by decide +kernel
theorem dX9_learnt_19 : decode cX9_learnt 19 = .ok (.aload_n 0, 1) := by decide +kernel
theorem dX9_learnt_20 : decode cX9_learnt 20 = .ok (.getfield 20, 3) := by decide +kernel
theorem dX9_learnt_23 : decode cX9_learnt 23 = .ok (.iload 4, 2) := by decide +kernel
theorem dX9_learnt_25 : decode cX9_learnt 25 = .ok (.aaload, 1) := by decide +kernel
theorem dX9_learnt_26 : decode cX9_learnt 26 = .ok (.astore 5, 2) := by decide +kernel
theorem dX9_learnt_28 : decode cX9_learnt 28 = .ok (.aload 5, 2) := by decide +kernel
theorem dX9_learnt_30 : decode cX9_learnt 30 = .ok (.invokevirtual 319, 3) := by decide +kernel
theorem dX9_learnt_33 : decode cX9_learnt 33 = .ok (.ifCond .eq 35, 3) := by decide +kernel
theorem dX9_learnt_36 : decode cX9_learnt 36 = .ok (.aload 5, 2) := by decide +kernel
theorem dX9_learnt_38 : decode cX9_learnt 38 = .ok (.getfield 229, 3) := by decide +kernel
theorem dX9_learnt_41 : decode cX9_learnt 41 = .ok (.iconst 2, 1) := by decide +kernel
theorem dX9_learnt_42 : decode cX9_learnt 42 = .ok (.if_icmp .ne 26, 3) := by decide +kernel
theorem dX9_learnt_45 : decode cX9_learnt 45 = .ok (.aload 5, 2) := by decide +kernel
theorem dX9_learnt_47 : decode cX9_learnt 47 = .ok (.iconst 0, 1) := by decide +kernel
theorem dX9_learnt_48 : decode cX9_learnt 48 = .ok (.iload_n 1, 1) := by decide +kernel
theorem dX9_learnt_49 : decode cX9_learnt 49 = .ok (.invokevirtual 332, 3) := by decide +kernel
theorem dX9_learnt_52 : decode cX9_learnt 52 = .ok (.ifCond .eq 16, 3) := by decide +kernel
theorem dX9_learnt_55 : decode cX9_learnt 55 = .ok (.aload 5, 2) := by decide +kernel
theorem dX9_learnt_57 : decode cX9_learnt 57 = .ok (.iconst 1, 1) := by decide +kernel
theorem dX9_learnt_58 : decode cX9_learnt 58 = .ok (.iload_n 2, 1) := by decide +kernel
theorem dX9_learnt_59 : decode cX9_learnt 59 = .ok (.invokevirtual 332, 3) := by decide +kernel
theorem dX9_learnt_62 : decode cX9_learnt 62 = .ok (.ifCond .eq 6, 3) := by decide +kernel
theorem dX9_learnt_65 : decode cX9_learnt 65 = .ok (.iinc 3 1, 3) := by decide +kernel
theorem dX9_learnt_68 : decode cX9_learnt 68 = .ok (.iinc 4 1, 3) := by decide +kernel
theorem dX9_learnt_71 : decode cX9_learnt 71 = .ok (.goto (-66), 3) := by decide +kernel
theorem dX9_learnt_74 : decode cX9_learnt 74 = .ok (.iload_n 3, 1) := by decide +kernel
theorem dX9_learnt_75 : decode cX9_learnt 75 = .ok (.ireturn, 1) := by decide +kernel
theorem dX9_freshRow_0 : decode cX9_freshRow 0 = .ok (.aload_n 0, 1) := by decide +kernel
theorem dX9_freshRow_1 : decode cX9_freshRow 1 = .ok (.getfield 34, 3) := by decide +kernel
theorem dX9_freshRow_4 : decode cX9_freshRow 4 = .ok (.getfield 166, 3) := by decide +kernel
theorem dX9_freshRow_7 : decode cX9_freshRow 7 = .ok (.aload_n 0, 1) := by decide +kernel
theorem dX9_freshRow_8 : decode cX9_freshRow 8 = .ok (.getfield 65, 3) := by decide +kernel
theorem dX9_freshRow_11 : decode cX9_freshRow 11 = .ok (.if_icmp .ne 14, 3) := by decide +kernel
theorem dX9_freshRow_14 : decode cX9_freshRow 14 = .ok (.aload_n 0, 1) := by decide +kernel
theorem dX9_freshRow_15 : decode cX9_freshRow 15 = .ok (.getfield 34, 3) := by decide +kernel
theorem dX9_freshRow_18 : decode cX9_freshRow 18 = .ok (.iload_n 1, 1) := by decide +kernel
theorem dX9_freshRow_19 : decode cX9_freshRow 19 = .ok (.invokevirtual 335, 3) := by decide +kernel
theorem dX9_freshRow_22 : decode cX9_freshRow 22 = .ok (.goto 4, 3) := by decide +kernel
theorem dX9_freshRow_25 : decode cX9_freshRow 25 = .ok (.iconst (-1), 1) := by decide +kernel
theorem dX9_freshRow_26 : decode cX9_freshRow 26 = .ok (.ireturn, 1) := by decide +kernel
theorem dX9_makeGroup_0 : decode cX9_makeGroup 0 = .ok (.aload_n 0, 1) := by decide +kernel
theorem dX9_makeGroup_1 : decode cX9_makeGroup 1 = .ok (.getfield 52, 3) := by decide +kernel
theorem dX9_makeGroup_4 : decode cX9_makeGroup 4 = .ok (.istore 4, 2) := by decide +kernel
theorem dX9_makeGroup_6 : decode cX9_makeGroup 6 = .ok (.aload_n 0, 1) := by decide +kernel
theorem dX9_makeGroup_7 : decode cX9_makeGroup 7 = .ok (.getfield 20, 3) := by decide +kernel
theorem dX9_makeGroup_10 : decode cX9_makeGroup 10 = .ok (.iload 4, 2) := by decide +kernel
theorem dX9_makeGroup_12 : decode cX9_makeGroup 12 = .ok (.aaload, 1) := by decide +kernel
theorem dX9_makeGroup_13 : decode cX9_makeGroup 13 = .ok (.iload_n 1, 1) := by decide +kernel
theorem dX9_makeGroup_14 : decode cX9_makeGroup 14 = .ok (.aload_n 0, 1) := by decide +kernel
theorem dX9_makeGroup_15 : decode cX9_makeGroup 15 = .ok (.getfield 56, 3) := by decide +kernel
theorem dX9_makeGroup_18 : decode cX9_makeGroup 18 = .ok (.invokevirtual 338, 3) := by decide +kernel
theorem dX9_makeGroup_21 : decode cX9_makeGroup 21 = .ok (.aload_n 0, 1) := by decide +kernel
theorem dX9_makeGroup_22 : decode cX9_makeGroup 22 = .ok (.dup, 1) := by decide +kernel
theorem dX9_makeGroup_23 : decode cX9_makeGroup 23 = .ok (.getfield 52, 3) := by decide +kernel
theorem dX9_makeGroup_26 : decode cX9_makeGroup 26 = .ok (.iconst 1, 1) := by decide +kernel
theorem dX9_makeGroup_27 : decode cX9_makeGroup 27 = .ok (.iadd, 1) := by decide +kernel
theorem dX9_makeGroup_28 : decode cX9_makeGroup 28 = .ok (.putfield 52, 3) := by decide +kernel
theorem dX9_makeGroup_31 : decode cX9_makeGroup 31 = .ok (.aload_n 0, 1) := by decide +kernel
theorem dX9_makeGroup_32 : decode cX9_makeGroup 32 = .ok (.iload 4, 2) := by decide +kernel
theorem dX9_makeGroup_34 : decode cX9_makeGroup 34 = .ok (.aload_n 2, 1) := by decide +kernel
theorem dX9_makeGroup_35 : decode cX9_makeGroup 35 = .ok (.invokevirtual 218, 3) := by decide +kernel
theorem dX9_makeGroup_38 : decode cX9_makeGroup 38 = .ok (.aload_n 0, 1) := by decide +kernel
theorem dX9_makeGroup_39 : decode cX9_makeGroup 39 = .ok (.iload 4, 2) := by decide +kernel
theorem dX9_makeGroup_41 : decode cX9_makeGroup 41 = .ok (.aload_n 3, 1) := by decide +kernel
theorem dX9_makeGroup_42 : decode cX9_makeGroup 42 = .ok (.invokevirtual 218, 3) := by decide +kernel
theorem dX9_makeGroup_45 : decode cX9_makeGroup 45 = .ok (.iload 4, 2) := by decide +kernel
theorem dX9_makeGroup_47 : decode cX9_makeGroup 47 = .ok (.ireturn, 1) := by decide +kernel
theorem dX9_addTo_0 : decode cX9_addTo 0 = .ok (.aload_n 0, 1) := by decide +kernel
theorem dX9_addTo_1 : decode cX9_addTo 1 = .ok (.getfield 20, 3) := by decide +kernel
theorem dX9_addTo_4 : decode cX9_addTo 4 = .ok (.iload_n 1, 1) := by decide +kernel
theorem dX9_addTo_5 : decode cX9_addTo 5 = .ok (.aaload, 1) := by decide +kernel
theorem dX9_addTo_6 : decode cX9_addTo 6 = .ok (.aload_n 2, 1) := by decide +kernel
theorem dX9_addTo_7 : decode cX9_addTo 7 = .ok (.invokevirtual 341, 3) := by decide +kernel
theorem dX9_addTo_10 : decode cX9_addTo 10 = .ok (.aload_n 2, 1) := by decide +kernel
theorem dX9_addTo_11 : decode cX9_addTo 11 = .ok (.iload_n 1, 1) := by decide +kernel
theorem dX9_addTo_12 : decode cX9_addTo 12 = .ok (.putfield 121, 3) := by decide +kernel
theorem dX9_addTo_15 : decode cX9_addTo 15 = .ok (.return_, 1) := by decide +kernel
theorem dX9_carriedOut_0 : decode cX9_carriedOut 0 = .ok (.aload_n 0, 1) := by decide +kernel
theorem dX9_carriedOut_1 : decode cX9_carriedOut 1 = .ok (.getfield 27, 3) := by decide +kernel
theorem dX9_carriedOut_4 : decode cX9_carriedOut 4 = .ok (.iload_n 1, 1) := by decide +kernel
theorem dX9_carriedOut_5 : decode cX9_carriedOut 5 = .ok (.iload_n 2, 1) := by decide +kernel
theorem dX9_carriedOut_6 : decode cX9_carriedOut 6 = .ok (.iload_n 3, 1) := by decide +kernel
theorem dX9_carriedOut_7 : decode cX9_carriedOut 7 = .ok (.invokevirtual 344, 3) := by decide +kernel
theorem dX9_carriedOut_10 : decode cX9_carriedOut 10 = .ok (.aload_n 0, 1) := by decide +kernel
theorem dX9_carriedOut_11 : decode cX9_carriedOut 11 = .ok (.dup, 1) := by decide +kernel
theorem dX9_carriedOut_12 : decode cX9_carriedOut 12 = .ok (.getfield 65, 3) := by decide +kernel
theorem dX9_carriedOut_15 : decode cX9_carriedOut 15 = .ok (.iconst 1, 1) := by decide +kernel
theorem dX9_carriedOut_16 : decode cX9_carriedOut 16 = .ok (.iadd, 1) := by decide +kernel
theorem dX9_carriedOut_17 : decode cX9_carriedOut 17 = .ok (.putfield 65, 3) := by decide +kernel
theorem dX9_carriedOut_20 : decode cX9_carriedOut 20 = .ok (.return_, 1) := by decide +kernel
theorem dX9_endUndoing_0 : decode cX9_endUndoing 0 = .ok (.aload_n 0, 1) := by decide +kernel
theorem dX9_endUndoing_1 : decode cX9_endUndoing 1 = .ok (.getfield 27, 3) := by decide +kernel
theorem dX9_endUndoing_4 : decode cX9_endUndoing 4 = .ok (.iconst 0, 1) := by decide +kernel
theorem dX9_endUndoing_5 : decode cX9_endUndoing 5 = .ok (.putfield 294, 3) := by decide +kernel
theorem dX9_endUndoing_8 : decode cX9_endUndoing 8 = .ok (.aload_n 0, 1) := by decide +kernel
theorem dX9_endUndoing_9 : decode cX9_endUndoing 9 = .ok (.dup, 1) := by decide +kernel
theorem dX9_endUndoing_10 : decode cX9_endUndoing 10 = .ok (.getfield 65, 3) := by decide +kernel
theorem dX9_endUndoing_13 : decode cX9_endUndoing 13 = .ok (.iconst 1, 1) := by decide +kernel
theorem dX9_endUndoing_14 : decode cX9_endUndoing 14 = .ok (.iadd, 1) := by decide +kernel
theorem dX9_endUndoing_15 : decode cX9_endUndoing 15 = .ok (.putfield 65, 3) := by decide +kernel
theorem dX9_endUndoing_18 : decode cX9_endUndoing 18 = .ok (.return_, 1) := by decide +kernel
theorem dX9_takeBack_0 : decode cX9_takeBack 0 = .ok (.iload_n 1, 1) := by decide +kernel
theorem dX9_takeBack_1 : decode cX9_takeBack 1 = .ok (.tableswitch 117 0 3 #[31, 49, 72, 94], 31) := by decide +kernel
theorem dX9_takeBack_32 : decode cX9_takeBack 32 = .ok (.aload_n 0, 1) := by decide +kernel
theorem dX9_takeBack_33 : decode cX9_takeBack 33 = .ok (.getfield 12, 3) := by decide +kernel
theorem dX9_takeBack_36 : decode cX9_takeBack 36 = .ok (.iload_n 2, 1) := by decide +kernel
theorem dX9_takeBack_37 : decode cX9_takeBack 37 = .ok (.aaload, 1) := by decide +kernel
theorem dX9_takeBack_38 : decode cX9_takeBack 38 = .ok (.dup, 1) := by decide +kernel
theorem dX9_takeBack_39 : decode cX9_takeBack 39 = .ok (.getfield 80, 3) := by decide +kernel
theorem dX9_takeBack_42 : decode cX9_takeBack 42 = .ok (.iconst 1, 1) := by decide +kernel
theorem dX9_takeBack_43 : decode cX9_takeBack 43 = .ok (.isub, 1) := by decide +kernel
theorem dX9_takeBack_44 : decode cX9_takeBack 44 = .ok (.putfield 80, 3) := by decide +kernel
theorem dX9_takeBack_47 : decode cX9_takeBack 47 = .ok (.goto 81, 3) := by decide +kernel
theorem dX9_takeBack_50 : decode cX9_takeBack 50 = .ok (.aload_n 0, 1) := by decide +kernel
theorem dX9_takeBack_51 : decode cX9_takeBack 51 = .ok (.getfield 20, 3) := by decide +kernel
theorem dX9_takeBack_54 : decode cX9_takeBack 54 = .ok (.iload_n 2, 1) := by decide +kernel
theorem dX9_takeBack_55 : decode cX9_takeBack 55 = .ok (.aaload, 1) := by decide +kernel
theorem dX9_takeBack_56 : decode cX9_takeBack 56 = .ok (.iconst (-1), 1) := by decide +kernel
theorem dX9_takeBack_57 : decode cX9_takeBack 57 = .ok (.invokevirtual 235, 3) := by decide +kernel
theorem dX9_takeBack_60 : decode cX9_takeBack 60 = .ok (.aload_n 0, 1) := by decide +kernel
theorem dX9_takeBack_61 : decode cX9_takeBack 61 = .ok (.dup, 1) := by decide +kernel
theorem dX9_takeBack_62 : decode cX9_takeBack 62 = .ok (.getfield 52, 3) := by decide +kernel
theorem dX9_takeBack_65 : decode cX9_takeBack 65 = .ok (.iconst 1, 1) := by decide +kernel
theorem dX9_takeBack_66 : decode cX9_takeBack 66 = .ok (.isub, 1) := by decide +kernel
theorem dX9_takeBack_67 : decode cX9_takeBack 67 = .ok (.putfield 52, 3) := by decide +kernel
theorem dX9_takeBack_70 : decode cX9_takeBack 70 = .ok (.goto 58, 3) := by decide +kernel
theorem dX9_takeBack_73 : decode cX9_takeBack 73 = .ok (.aload_n 0, 1) := by decide +kernel
theorem dX9_takeBack_74 : decode cX9_takeBack 74 = .ok (.getfield 20, 3) := by decide +kernel
theorem dX9_takeBack_77 : decode cX9_takeBack 77 = .ok (.iload_n 2, 1) := by decide +kernel
theorem dX9_takeBack_78 : decode cX9_takeBack 78 = .ok (.aaload, 1) := by decide +kernel
theorem dX9_takeBack_79 : decode cX9_takeBack 79 = .ok (.invokevirtual 347, 3) := by decide +kernel
theorem dX9_takeBack_82 : decode cX9_takeBack 82 = .ok (.aload_n 0, 1) := by decide +kernel
theorem dX9_takeBack_83 : decode cX9_takeBack 83 = .ok (.getfield 20, 3) := by decide +kernel
theorem dX9_takeBack_86 : decode cX9_takeBack 86 = .ok (.iload_n 2, 1) := by decide +kernel
theorem dX9_takeBack_87 : decode cX9_takeBack 87 = .ok (.aaload, 1) := by decide +kernel
theorem dX9_takeBack_88 : decode cX9_takeBack 88 = .ok (.iload_n 3, 1) := by decide +kernel
theorem dX9_takeBack_89 : decode cX9_takeBack 89 = .ok (.putfield 229, 3) := by decide +kernel
theorem dX9_takeBack_92 : decode cX9_takeBack 92 = .ok (.goto 36, 3) := by decide +kernel
theorem dX9_takeBack_95 : decode cX9_takeBack 95 = .ok (.aload_n 0, 1) := by decide +kernel
theorem dX9_takeBack_96 : decode cX9_takeBack 96 = .ok (.getfield 20, 3) := by decide +kernel
theorem dX9_takeBack_99 : decode cX9_takeBack 99 = .ok (.iload_n 2, 1) := by decide +kernel
theorem dX9_takeBack_100 : decode cX9_takeBack 100 = .ok (.aaload, 1) := by decide +kernel
theorem dX9_takeBack_101 : decode cX9_takeBack 101 = .ok (.iconst (-1), 1) := by decide +kernel
theorem dX9_takeBack_102 : decode cX9_takeBack 102 = .ok (.putfield 232, 3) := by decide +kernel
theorem dX9_takeBack_105 : decode cX9_takeBack 105 = .ok (.aload_n 0, 1) := by decide +kernel
theorem dX9_takeBack_106 : decode cX9_takeBack 106 = .ok (.getfield 20, 3) := by decide +kernel
theorem dX9_takeBack_109 : decode cX9_takeBack 109 = .ok (.iload_n 2, 1) := by decide +kernel
theorem dX9_takeBack_110 : decode cX9_takeBack 110 = .ok (.aaload, 1) := by decide +kernel
theorem dX9_takeBack_111 : decode cX9_takeBack 111 = .ok (.iload_n 2, 1) := by decide +kernel
theorem dX9_takeBack_112 : decode cX9_takeBack 112 = .ok (.invokevirtual 235, 3) := by decide +kernel
theorem dX9_takeBack_115 : decode cX9_takeBack 115 = .ok (.goto 13, 3) := by decide +kernel
theorem dX9_takeBack_118 : decode cX9_takeBack 118 = .ok (.aload_n 0, 1) := by decide +kernel
theorem dX9_takeBack_119 : decode cX9_takeBack 119 = .ok (.getfield 20, 3) := by decide +kernel
theorem dX9_takeBack_122 : decode cX9_takeBack 122 = .ok (.iload_n 2, 1) := by decide +kernel
theorem dX9_takeBack_123 : decode cX9_takeBack 123 = .ok (.aaload, 1) := by decide +kernel
theorem dX9_takeBack_124 : decode cX9_takeBack 124 = .ok (.iload_n 3, 1) := by decide +kernel
theorem dX9_takeBack_125 : decode cX9_takeBack 125 = .ok (.putfield 225, 3) := by decide +kernel
theorem dX9_takeBack_128 : decode cX9_takeBack 128 = .ok (.return_, 1) := by decide +kernel
theorem dX9_booksDifference_0 : decode cX9_booksDifference 0 = .ok (.aload_n 0, 1) := by decide +kernel
theorem dX9_booksDifference_1 : decode cX9_booksDifference 1 = .ok (.getfield 12, 3) := by decide +kernel
theorem dX9_booksDifference_4 : decode cX9_booksDifference 4 = .ok (.iconst 0, 1) := by decide +kernel
theorem dX9_booksDifference_5 : decode cX9_booksDifference 5 = .ok (.aaload, 1) := by decide +kernel
theorem dX9_booksDifference_6 : decode cX9_booksDifference 6 = .ok (.invokevirtual 350, 3) := by decide +kernel
theorem dX9_booksDifference_9 : decode cX9_booksDifference 9 = .ok (.aload_n 0, 1) := by decide +kernel
theorem dX9_booksDifference_10 : decode cX9_booksDifference 10 = .ok (.getfield 12, 3) := by decide +kernel
theorem dX9_booksDifference_13 : decode cX9_booksDifference 13 = .ok (.iconst 1, 1) := by decide +kernel
theorem dX9_booksDifference_14 : decode cX9_booksDifference 14 = .ok (.aaload, 1) := by decide +kernel
theorem dX9_booksDifference_15 : decode cX9_booksDifference 15 = .ok (.invokevirtual 350, 3) := by decide +kernel
theorem dX9_booksDifference_18 : decode cX9_booksDifference 18 = .ok (.isub, 1) := by decide +kernel
theorem dX9_booksDifference_19 : decode cX9_booksDifference 19 = .ok (.ireturn, 1) := by decide +kernel
theorem dX9_groupsDifference_0 : decode cX9_groupsDifference 0 = .ok (.iconst 0, 1) := by decide +kernel
theorem dX9_groupsDifference_1 : decode cX9_groupsDifference 1 = .ok (.istore_n 1, 1) := by decide +kernel
theorem dX9_groupsDifference_2 : decode cX9_groupsDifference 2 = .ok (.iconst 0, 1) := by decide +kernel
theorem dX9_groupsDifference_3 : decode cX9_groupsDifference 3 = .ok (.istore_n 2, 1) := by decide +kernel
theorem dX9_groupsDifference_4 : decode cX9_groupsDifference 4 = .ok (.iload_n 2, 1) := by decide +kernel
theorem dX9_groupsDifference_5 : decode cX9_groupsDifference 5 = .ok (.aload_n 0, 1) := by decide +kernel
theorem dX9_groupsDifference_6 : decode cX9_groupsDifference 6 = .ok (.getfield 52, 3) := by decide +kernel
theorem dX9_groupsDifference_9 : decode cX9_groupsDifference 9 = .ok (.if_icmp .ge 33, 3) := by decide +kernel
theorem dX9_groupsDifference_12 : decode cX9_groupsDifference 12 = .ok (.aload_n 0, 1) := by decide +kernel
theorem dX9_groupsDifference_13 : decode cX9_groupsDifference 13 = .ok (.getfield 20, 3) := by decide +kernel
theorem dX9_groupsDifference_16 : decode cX9_groupsDifference 16 = .ok (.iload_n 2, 1) := by decide +kernel
theorem dX9_groupsDifference_17 : decode cX9_groupsDifference 17 = .ok (.aaload, 1) := by decide +kernel
theorem dX9_groupsDifference_18 : decode cX9_groupsDifference 18 = .ok (.invokevirtual 319, 3) := by decide +kernel
theorem dX9_groupsDifference_21 : decode cX9_groupsDifference 21 = .ok (.ifCond .eq 15, 3) := by decide +kernel
theorem dX9_groupsDifference_24 : decode cX9_groupsDifference 24 = .ok (.iload_n 1, 1) := by decide +kernel
theorem dX9_groupsDifference_25 : decode cX9_groupsDifference 25 = .ok (.aload_n 0, 1) := by decide +kernel
theorem dX9_groupsDifference_26 : decode cX9_groupsDifference 26 = .ok (.getfield 20, 3) := by decide +kernel
theorem dX9_groupsDifference_29 : decode cX9_groupsDifference 29 = .ok (.iload_n 2, 1) := by decide +kernel
theorem dX9_groupsDifference_30 : decode cX9_groupsDifference 30 = .ok (.aaload, 1) := by decide +kernel
theorem dX9_groupsDifference_31 : decode cX9_groupsDifference 31 = .ok (.invokevirtual 239, 3) := by decide +kernel
theorem dX9_groupsDifference_34 : decode cX9_groupsDifference 34 = .ok (.iadd, 1) := by decide +kernel
theorem dX9_groupsDifference_35 : decode cX9_groupsDifference 35 = .ok (.istore_n 1, 1) := by decide +kernel
theorem dX9_groupsDifference_36 : decode cX9_groupsDifference 36 = .ok (.iinc 2 1, 3) := by decide +kernel
theorem dX9_groupsDifference_39 : decode cX9_groupsDifference 39 = .ok (.goto (-35), 3) := by decide +kernel
theorem dX9_groupsDifference_42 : decode cX9_groupsDifference 42 = .ok (.iload_n 1, 1) := by decide +kernel
theorem dX9_groupsDifference_43 : decode cX9_groupsDifference 43 = .ok (.ireturn, 1) := by decide +kernel
theorem dX9_countThere_0 : decode cX9_countThere 0 = .ok (.iconst 0, 1) := by decide +kernel
theorem dX9_countThere_1 : decode cX9_countThere 1 = .ok (.istore_n 1, 1) := by decide +kernel
theorem dX9_countThere_2 : decode cX9_countThere 2 = .ok (.iconst 0, 1) := by decide +kernel
theorem dX9_countThere_3 : decode cX9_countThere 3 = .ok (.istore_n 2, 1) := by decide +kernel
theorem dX9_countThere_4 : decode cX9_countThere 4 = .ok (.iload_n 2, 1) := by decide +kernel
theorem dX9_countThere_5 : decode cX9_countThere 5 = .ok (.aload_n 0, 1) := by decide +kernel
theorem dX9_countThere_6 : decode cX9_countThere 6 = .ok (.getfield 52, 3) := by decide +kernel
theorem dX9_countThere_9 : decode cX9_countThere 9 = .ok (.if_icmp .ge 24, 3) := by decide +kernel
theorem dX9_countThere_12 : decode cX9_countThere 12 = .ok (.aload_n 0, 1) := by decide +kernel
theorem dX9_countThere_13 : decode cX9_countThere 13 = .ok (.getfield 20, 3) := by decide +kernel
theorem dX9_countThere_16 : decode cX9_countThere 16 = .ok (.iload_n 2, 1) := by decide +kernel
theorem dX9_countThere_17 : decode cX9_countThere 17 = .ok (.aaload, 1) := by decide +kernel
theorem dX9_countThere_18 : decode cX9_countThere 18 = .ok (.invokevirtual 319, 3) := by decide +kernel
theorem dX9_countThere_21 : decode cX9_countThere 21 = .ok (.ifCond .eq 6, 3) := by decide +kernel
theorem dX9_countThere_24 : decode cX9_countThere 24 = .ok (.iinc 1 1, 3) := by decide +kernel
theorem dX9_countThere_27 : decode cX9_countThere 27 = .ok (.iinc 2 1, 3) := by decide +kernel
theorem dX9_countThere_30 : decode cX9_countThere 30 = .ok (.goto (-26), 3) := by decide +kernel
theorem dX9_countThere_33 : decode cX9_countThere 33 = .ok (.iload_n 1, 1) := by decide +kernel
theorem dX9_countThere_34 : decode cX9_countThere 34 = .ok (.ireturn, 1) := by decide +kernel
theorem dX9_countUneven_0 : decode cX9_countUneven 0 = .ok (.iconst 0, 1) := by decide +kernel
theorem dX9_countUneven_1 : decode cX9_countUneven 1 = .ok (.istore_n 1, 1) := by decide +kernel
theorem dX9_countUneven_2 : decode cX9_countUneven 2 = .ok (.iconst 0, 1) := by decide +kernel
theorem dX9_countUneven_3 : decode cX9_countUneven 3 = .ok (.istore_n 2, 1) := by decide +kernel
theorem dX9_countUneven_4 : decode cX9_countUneven 4 = .ok (.iload_n 2, 1) := by decide +kernel
theorem dX9_countUneven_5 : decode cX9_countUneven 5 = .ok (.aload_n 0, 1) := by decide +kernel
theorem dX9_countUneven_6 : decode cX9_countUneven 6 = .ok (.getfield 52, 3) := by decide +kernel
theorem dX9_countUneven_9 : decode cX9_countUneven 9 = .ok (.if_icmp .ge 24, 3) := by decide +kernel
theorem dX9_countUneven_12 : decode cX9_countUneven 12 = .ok (.aload_n 0, 1) := by decide +kernel
theorem dX9_countUneven_13 : decode cX9_countUneven 13 = .ok (.getfield 20, 3) := by decide +kernel
theorem dX9_countUneven_16 : decode cX9_countUneven 16 = .ok (.iload_n 2, 1) := by decide +kernel
theorem dX9_countUneven_17 : decode cX9_countUneven 17 = .ok (.aaload, 1) := by decide +kernel
theorem dX9_countUneven_18 : decode cX9_countUneven 18 = .ok (.invokevirtual 279, 3) := by decide +kernel
theorem dX9_countUneven_21 : decode cX9_countUneven 21 = .ok (.ifCond .eq 6, 3) := by decide +kernel
theorem dX9_countUneven_24 : decode cX9_countUneven 24 = .ok (.iinc 1 1, 3) := by decide +kernel
theorem dX9_countUneven_27 : decode cX9_countUneven 27 = .ok (.iinc 2 1, 3) := by decide +kernel
theorem dX9_countUneven_30 : decode cX9_countUneven 30 = .ok (.goto (-26), 3) := by decide +kernel
theorem dX9_countUneven_33 : decode cX9_countUneven 33 = .ok (.iload_n 1, 1) := by decide +kernel
theorem dX9_countUneven_34 : decode cX9_countUneven 34 = .ok (.ireturn, 1) := by decide +kernel
theorem dX9_allHaveBothBooks_0 : decode cX9_allHaveBothBooks 0 = .ok (.iconst 0, 1) := by decide +kernel
theorem dX9_allHaveBothBooks_1 : decode cX9_allHaveBothBooks 1 = .ok (.istore_n 1, 1) := by decide +kernel
theorem dX9_allHaveBothBooks_2 : decode cX9_allHaveBothBooks 2 = .ok (.iload_n 1, 1) := by decide +kernel
theorem dX9_allHaveBothBooks_3 : decode cX9_allHaveBothBooks 3 = .ok (.aload_n 0, 1) := by decide +kernel
theorem dX9_allHaveBothBooks_4 : decode cX9_allHaveBothBooks 4 = .ok (.getfield 52, 3) := by decide +kernel
theorem dX9_allHaveBothBooks_7 : decode cX9_allHaveBothBooks 7 = .ok (.if_icmp .ge 35, 3) := by decide +kernel
theorem dX9_allHaveBothBooks_10 : decode cX9_allHaveBothBooks 10 = .ok (.aload_n 0, 1) := by decide +kernel
theorem dX9_allHaveBothBooks_11 : decode cX9_allHaveBothBooks 11 = .ok (.getfield 20, 3) := by decide +kernel
theorem dX9_allHaveBothBooks_14 : decode cX9_allHaveBothBooks 14 = .ok (.iload_n 1, 1) := by decide +kernel
theorem dX9_allHaveBothBooks_15 : decode cX9_allHaveBothBooks 15 = .ok (.aaload, 1) := by decide +kernel
theorem dX9_allHaveBothBooks_16 : decode cX9_allHaveBothBooks 16 = .ok (.invokevirtual 319, 3) := by decide +kernel
theorem dX9_allHaveBothBooks_19 : decode cX9_allHaveBothBooks 19 = .ok (.ifCond .eq 17, 3) := by decide +kernel
theorem dX9_allHaveBothBooks_22 : decode cX9_allHaveBothBooks 22 = .ok (.aload_n 0, 1) := by decide +kernel
theorem dX9_allHaveBothBooks_23 : decode cX9_allHaveBothBooks 23 = .ok (.getfield 20, 3) := by decide +kernel
theorem dX9_allHaveBothBooks_26 : decode cX9_allHaveBothBooks 26 = .ok (.iload_n 1, 1) := by decide +kernel
theorem dX9_allHaveBothBooks_27 : decode cX9_allHaveBothBooks 27 = .ok (.aaload, 1) := by decide +kernel
theorem dX9_allHaveBothBooks_28 : decode cX9_allHaveBothBooks 28 = .ok (.invokevirtual 353, 3) := by decide +kernel
theorem dX9_allHaveBothBooks_31 : decode cX9_allHaveBothBooks 31 = .ok (.ifCond .ne 5, 3) := by decide +kernel
theorem dX9_allHaveBothBooks_34 : decode cX9_allHaveBothBooks 34 = .ok (.iconst 0, 1) := by decide +kernel
theorem dX9_allHaveBothBooks_35 : decode cX9_allHaveBothBooks 35 = .ok (.ireturn, 1) := by decide +kernel
theorem dX9_allHaveBothBooks_36 : decode cX9_allHaveBothBooks 36 = .ok (.iinc 1 1, 3) := by decide +kernel
theorem dX9_allHaveBothBooks_39 : decode cX9_allHaveBothBooks 39 = .ok (.goto (-37), 3) := by decide +kernel
theorem dX9_allHaveBothBooks_42 : decode cX9_allHaveBothBooks 42 = .ok (.iconst 1, 1) := by decide +kernel
theorem dX9_allHaveBothBooks_43 : decode cX9_allHaveBothBooks 43 = .ok (.ireturn, 1) := by decide +kernel
theorem dX9_countHolders_0 : decode cX9_countHolders 0 = .ok (.aload_n 0, 1) := by decide +kernel
theorem dX9_countHolders_1 : decode cX9_countHolders 1 = .ok (.getfield 12, 3) := by decide +kernel
theorem dX9_countHolders_4 : decode cX9_countHolders 4 = .ok (.iconst 0, 1) := by decide +kernel
theorem dX9_countHolders_5 : decode cX9_countHolders 5 = .ok (.aaload, 1) := by decide +kernel
theorem dX9_countHolders_6 : decode cX9_countHolders 6 = .ok (.invokevirtual 356, 3) := by decide +kernel
theorem dX9_countHolders_9 : decode cX9_countHolders 9 = .ok (.aload_n 0, 1) := by decide +kernel
theorem dX9_countHolders_10 : decode cX9_countHolders 10 = .ok (.getfield 12, 3) := by decide +kernel
theorem dX9_countHolders_13 : decode cX9_countHolders 13 = .ok (.iconst 1, 1) := by decide +kernel
theorem dX9_countHolders_14 : decode cX9_countHolders 14 = .ok (.aaload, 1) := by decide +kernel
theorem dX9_countHolders_15 : decode cX9_countHolders 15 = .ok (.invokevirtual 356, 3) := by decide +kernel
theorem dX9_countHolders_18 : decode cX9_countHolders 18 = .ok (.iconst 0, 1) := by decide +kernel
theorem dX9_countHolders_19 : decode cX9_countHolders 19 = .ok (.istore_n 2, 1) := by decide +kernel
theorem dX9_countHolders_20 : decode cX9_countHolders 20 = .ok (.iconst 0, 1) := by decide +kernel
theorem dX9_countHolders_21 : decode cX9_countHolders 21 = .ok (.istore_n 3, 1) := by decide +kernel
theorem dX9_countHolders_22 : decode cX9_countHolders 22 = .ok (.iload_n 3, 1) := by decide +kernel
theorem dX9_countHolders_23 : decode cX9_countHolders 23 = .ok (.aload_n 0, 1) := by decide +kernel
theorem dX9_countHolders_24 : decode cX9_countHolders 24 = .ok (.getfield 52, 3) := by decide +kernel
theorem dX9_countHolders_27 : decode cX9_countHolders 27 = .ok (.if_icmp .ge 34, 3) := by decide +kernel
theorem dX9_countHolders_30 : decode cX9_countHolders 30 = .ok (.aload_n 0, 1) := by decide +kernel
theorem dX9_countHolders_31 : decode cX9_countHolders 31 = .ok (.getfield 20, 3) := by decide +kernel
theorem dX9_countHolders_34 : decode cX9_countHolders 34 = .ok (.iload_n 3, 1) := by decide +kernel
theorem dX9_countHolders_35 : decode cX9_countHolders 35 = .ok (.aaload, 1) := by decide +kernel
theorem dX9_countHolders_36 : decode cX9_countHolders 36 = .ok (.iload_n 1, 1) := by decide +kernel
theorem dX9_countHolders_37 : decode cX9_countHolders 37 = .ok (.invokevirtual 359, 3) := by decide +kernel
theorem dX9_countHolders_40 : decode cX9_countHolders 40 = .ok (.ifCond .eq 15, 3) := by decide +kernel
theorem dX9_countHolders_43 : decode cX9_countHolders 43 = .ok (.aload_n 0, 1) := by decide +kernel
theorem dX9_countHolders_44 : decode cX9_countHolders 44 = .ok (.getfield 20, 3) := by decide +kernel
theorem dX9_countHolders_47 : decode cX9_countHolders 47 = .ok (.iload_n 3, 1) := by decide +kernel
theorem dX9_countHolders_48 : decode cX9_countHolders 48 = .ok (.aaload, 1) := by decide +kernel
theorem dX9_countHolders_49 : decode cX9_countHolders 49 = .ok (.invokevirtual 362, 3) := by decide +kernel
theorem dX9_countHolders_52 : decode cX9_countHolders 52 = .ok (.iinc 2 1, 3) := by decide +kernel
theorem dX9_countHolders_55 : decode cX9_countHolders 55 = .ok (.iinc 3 1, 3) := by decide +kernel
theorem dX9_countHolders_58 : decode cX9_countHolders 58 = .ok (.goto (-36), 3) := by decide +kernel
theorem dX9_countHolders_61 : decode cX9_countHolders 61 = .ok (.iload_n 2, 1) := by decide +kernel
theorem dX9_countHolders_62 : decode cX9_countHolders 62 = .ok (.ireturn, 1) := by decide +kernel
