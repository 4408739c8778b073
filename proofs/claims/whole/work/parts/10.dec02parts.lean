theorem dX6_init_34 : decode cX6_init 34 = .ok (.putfield 24, 3) := by decide +kernel
theorem dX6_init_37 : decode cX6_init 37 = .ok (.aload_n 0, 1) := by decide +kernel
theorem dX6_init_38 : decode cX6_init 38 = .ok (.bipush 15, 2) := by decide +kernel
theorem dX6_init_40 : decode cX6_init 40 = .ok (.newarray .int, 2) := by decide +kernel
theorem dX6_init_42 : decode cX6_init 42 = .ok (.putfield 27, 3) := by decide +kernel
theorem dX6_init_45 : decode cX6_init 45 = .ok (.aload_n 0, 1) := by decide +kernel
theorem dX6_init_46 : decode cX6_init 46 = .ok (.bipush 14, 2) := by decide +kernel
theorem dX6_init_48 : decode cX6_init 48 = .ok (.newarray .int, 2) := by decide +kernel
theorem dX6_init_50 : decode cX6_init 50 = .ok (.putfield 30, 3) := by decide +kernel
theorem dX6_init_53 : decode cX6_init 53 = .ok (.aload_n 0, 1) := by decide +kernel
theorem dX6_init_54 : decode cX6_init 54 = .ok (.bipush 15, 2) := by decide +kernel
theorem dX6_init_56 : decode cX6_init 56 = .ok (.newarray .int, 2) := by decide +kernel
theorem dX6_init_58 : decode cX6_init 58 = .ok (.putfield 33, 3) := by decide +kernel
theorem dX6_init_61 : decode cX6_init 61 = .ok (.aload_n 0, 1) := by decide +kernel
theorem dX6_init_62 : decode cX6_init 62 = .ok (.bipush 15, 2) := by decide +kernel
theorem dX6_init_64 : decode cX6_init 64 = .ok (.newarray .int, 2) := by decide +kernel
theorem dX6_init_66 : decode cX6_init 66 = .ok (.putfield 36, 3) := by decide +kernel
theorem dX6_init_69 : decode cX6_init 69 = .ok (.aload_n 0, 1) := by decide +kernel
theorem dX6_init_70 : decode cX6_init 70 = .ok (.bipush 15, 2) := by decide +kernel
theorem dX6_init_72 : decode cX6_init 72 = .ok (.newarray .int, 2) := by decide +kernel
theorem dX6_init_74 : decode cX6_init 74 = .ok (.putfield 39, 3) := by decide +kernel
theorem dX6_init_77 : decode cX6_init 77 = .ok (.aload_n 0, 1) := by decide +kernel
theorem dX6_init_78 : decode cX6_init 78 = .ok (.bipush 15, 2) := by decide +kernel
theorem dX6_init_80 : decode cX6_init 80 = .ok (.newarray .int, 2) := by decide +kernel
theorem dX6_init_82 : decode cX6_init 82 = .ok (.putfield 42, 3) := by decide +kernel
theorem dX6_init_85 : decode cX6_init 85 = .ok (.aload_n 0, 1) := by decide +kernel
theorem dX6_init_86 : decode cX6_init 86 = .ok (.bipush 15, 2) := by decide +kernel
theorem dX6_init_88 : decode cX6_init 88 = .ok (.newarray .boolean, 2) := by decide +kernel
theorem dX6_init_90 : decode cX6_init 90 = .ok (.putfield 45, 3) := by decide +kernel
theorem dX6_init_93 : decode cX6_init 93 = .ok (.aload_n 0, 1) := by decide +kernel
theorem dX6_init_94 : decode cX6_init 94 = .ok (.bipush 14, 2) := by decide +kernel
theorem dX6_init_96 : decode cX6_init 96 = .ok (.newarray .boolean, 2) := by decide +kernel
theorem dX6_init_98 : decode cX6_init 98 = .ok (.putfield 49, 3) := by decide +kernel
theorem dX6_init_101 : decode cX6_init 101 = .ok (.return_, 1) := by decide +kernel
theorem dX6_clear_0 : decode cX6_clear 0 = .ok (.aload_n 0, 1) := by decide +kernel
theorem dX6_clear_1 : decode cX6_clear 1 = .ok (.iload_n 1, 1) := by decide +kernel
theorem dX6_clear_2 : decode cX6_clear 2 = .ok (.putfield 16, 3) := by decide +kernel
theorem dX6_clear_5 : decode cX6_clear 5 = .ok (.iconst 0, 1) := by decide +kernel
theorem dX6_clear_6 : decode cX6_clear 6 = .ok (.istore_n 2, 1) := by decide +kernel
theorem dX6_clear_7 : decode cX6_clear 7 = .ok (.iload_n 2, 1) := by decide +kernel
theorem dX6_clear_8 : decode cX6_clear 8 = .ok (.aload_n 0, 1) := by decide +kernel
theorem dX6_clear_9 : decode cX6_clear 9 = .ok (.getfield 16, 3) := by decide +kernel
theorem dX6_clear_12 : decode cX6_clear 12 = .ok (.if_icmp .ge 26, 3) := by decide +kernel
theorem dX6_clear_15 : decode cX6_clear 15 = .ok (.aload_n 0, 1) := by decide +kernel
theorem dX6_clear_16 : decode cX6_clear 16 = .ok (.getfield 11, 3) := by decide +kernel
theorem dX6_clear_19 : decode cX6_clear 19 = .ok (.iload_n 2, 1) := by decide +kernel
theorem dX6_clear_20 : decode cX6_clear 20 = .ok (.aaload, 1) := by decide +kernel
theorem dX6_clear_21 : decode cX6_clear 21 = .ok (.iconst 0, 1) := by decide +kernel
theorem dX6_clear_22 : decode cX6_clear 22 = .ok (.invokestatic 52, 3) := by decide +kernel
theorem dX6_clear_25 : decode cX6_clear 25 = .ok (.aload_n 0, 1) := by decide +kernel
theorem dX6_clear_26 : decode cX6_clear 26 = .ok (.getfield 49, 3) := by decide +kernel
theorem dX6_clear_29 : decode cX6_clear 29 = .ok (.iload_n 2, 1) := by decide +kernel
theorem dX6_clear_30 : decode cX6_clear 30 = .ok (.iconst 0, 1) := by decide +kernel
theorem dX6_clear_31 : decode cX6_clear 31 = .ok (.bastore, 1) := by decide +kernel
theorem dX6_clear_32 : decode cX6_clear 32 = .ok (.iinc 2 1, 3) := by decide +kernel
theorem dX6_clear_35 : decode cX6_clear 35 = .ok (.goto (-28), 3) := by decide +kernel
theorem dX6_clear_38 : decode cX6_clear 38 = .ok (.aload_n 0, 1) := by decide +kernel
theorem dX6_clear_39 : decode cX6_clear 39 = .ok (.getfield 20, 3) := by decide +kernel
theorem dX6_clear_42 : decode cX6_clear 42 = .ok (.iconst 0, 1) := by decide +kernel
theorem dX6_clear_43 : decode cX6_clear 43 = .ok (.invokestatic 52, 3) := by decide +kernel
theorem dX6_clear_46 : decode cX6_clear 46 = .ok (.aload_n 0, 1) := by decide +kernel
theorem dX6_clear_47 : decode cX6_clear 47 = .ok (.getfield 24, 3) := by decide +kernel
theorem dX6_clear_50 : decode cX6_clear 50 = .ok (.iconst 0, 1) := by decide +kernel
theorem dX6_clear_51 : decode cX6_clear 51 = .ok (.invokestatic 52, 3) := by decide +kernel
theorem dX6_clear_54 : decode cX6_clear 54 = .ok (.aload_n 0, 1) := by decide +kernel
theorem dX6_clear_55 : decode cX6_clear 55 = .ok (.getfield 27, 3) := by decide +kernel
theorem dX6_clear_58 : decode cX6_clear 58 = .ok (.iconst (-1), 1) := by decide +kernel
theorem dX6_clear_59 : decode cX6_clear 59 = .ok (.invokestatic 52, 3) := by decide +kernel
theorem dX6_clear_62 : decode cX6_clear 62 = .ok (.return_, 1) := by decide +kernel
theorem dX6_seatAll_0 : decode cX6_seatAll 0 = .ok (.iconst 0, 1) := by decide +kernel
theorem dX6_seatAll_1 : decode cX6_seatAll 1 = .ok (.istore_n 1, 1) := by decide +kernel
theorem dX6_seatAll_2 : decode cX6_seatAll 2 = .ok (.iload_n 1, 1) := by decide +kernel
theorem dX6_seatAll_3 : decode cX6_seatAll 3 = .ok (.aload_n 0, 1) := by decide +kernel
theorem dX6_seatAll_4 : decode cX6_seatAll 4 = .ok (.getfield 16, 3) := by decide +kernel
theorem dX6_seatAll_7 : decode cX6_seatAll 7 = .ok (.if_icmp .ge 14, 3) := by decide +kernel
theorem dX6_seatAll_10 : decode cX6_seatAll 10 = .ok (.aload_n 0, 1) := by decide +kernel
theorem dX6_seatAll_11 : decode cX6_seatAll 11 = .ok (.iload_n 1, 1) := by decide +kernel
theorem dX6_seatAll_12 : decode cX6_seatAll 12 = .ok (.invokevirtual 58, 3) := by decide +kernel
theorem dX6_seatAll_15 : decode cX6_seatAll 15 = .ok (.iinc 1 1, 3) := by decide +kernel
theorem dX6_seatAll_18 : decode cX6_seatAll 18 = .ok (.goto (-16), 3) := by decide +kernel
theorem dX6_seatAll_21 : decode cX6_seatAll 21 = .ok (.return_, 1) := by decide +kernel
theorem dX6_total_0 : decode cX6_total 0 = .ok (.iconst 0, 1) := by decide +kernel
theorem dX6_total_1 : decode cX6_total 1 = .ok (.istore_n 1, 1) := by decide +kernel
theorem dX6_total_2 : decode cX6_total 2 = .ok (.iconst 0, 1) := by decide +kernel
theorem dX6_total_3 : decode cX6_total 3 = .ok (.istore_n 2, 1) := by decide +kernel
theorem dX6_total_4 : decode cX6_total 4 = .ok (.iload_n 2, 1) := by decide +kernel
theorem dX6_total_5 : decode cX6_total 5 = .ok (.aload_n 0, 1) := by decide +kernel
theorem dX6_total_6 : decode cX6_total 6 = .ok (.getfield 16, 3) := by decide +kernel
theorem dX6_total_9 : decode cX6_total 9 = .ok (.if_icmp .ge 35, 3) := by decide +kernel
theorem dX6_total_12 : decode cX6_total 12 = .ok (.aload_n 0, 1) := by decide +kernel
theorem dX6_total_13 : decode cX6_total 13 = .ok (.getfield 27, 3) := by decide +kernel
theorem dX6_total_16 : decode cX6_total 16 = .ok (.iload_n 2, 1) := by decide +kernel
theorem dX6_total_17 : decode cX6_total 17 = .ok (.iaload, 1) := by decide +kernel
theorem dX6_total_18 : decode cX6_total 18 = .ok (.iconst (-1), 1) := by decide +kernel
theorem dX6_total_19 : decode cX6_total 19 = .ok (.if_icmp .eq 19, 3) := by decide +kernel
theorem dX6_total_22 : decode cX6_total 22 = .ok (.iload_n 1, 1) := by decide +kernel
theorem dX6_total_23 : decode cX6_total 23 = .ok (.aload_n 0, 1) := by decide +kernel
theorem dX6_total_24 : decode cX6_total 24 = .ok (.getfield 11, 3) := by decide +kernel
theorem dX6_total_27 : decode cX6_total 27 = .ok (.aload_n 0, 1) := by decide +kernel
theorem dX6_total_28 : decode cX6_total 28 = .ok (.getfield 27, 3) := by decide +kernel
theorem dX6_total_31 : decode cX6_total 31 = .ok (.iload_n 2, 1) := by decide +kernel
theorem dX6_total_32 : decode cX6_total 32 = .ok (.iaload, 1) := by decide +kernel
theorem dX6_total_33 : decode cX6_total 33 = .ok (.aaload, 1) := by decide +kernel
theorem dX6_total_34 : decode cX6_total 34 = .ok (.iload_n 2, 1) := by decide +kernel
theorem dX6_total_35 : decode cX6_total 35 = .ok (.iaload, 1) := by decide +kernel
theorem dX6_total_36 : decode cX6_total 36 = .ok (.iadd, 1) := by decide +kernel
theorem dX6_total_37 : decode cX6_total 37 = .ok (.istore_n 1, 1) := by decide +kernel
theorem dX6_total_38 : decode cX6_total 38 = .ok (.iinc 2 1, 3) := by decide +kernel
theorem dX6_total_41 : decode cX6_total 41 = .ok (.goto (-37), 3) := by decide +kernel
theorem dX6_total_44 : decode cX6_total 44 = .ok (.iload_n 1, 1) := by decide +kernel
theorem dX6_total_45 : decode cX6_total 45 = .ok (.ireturn, 1) := by decide +kernel
theorem dX6_columnOf_0 : decode cX6_columnOf 0 = .ok (.iconst 0, 1) := by decide +kernel
theorem dX6_columnOf_1 : decode cX6_columnOf 1 = .ok (.istore_n 2, 1) := by decide +kernel
theorem dX6_columnOf_2 : decode cX6_columnOf 2 = .ok (.iload_n 2, 1) := by decide +kernel
theorem dX6_columnOf_3 : decode cX6_columnOf 3 = .ok (.aload_n 0, 1) := by decide +kernel
theorem dX6_columnOf_4 : decode cX6_columnOf 4 = .ok (.getfield 16, 3) := by decide +kernel
theorem dX6_columnOf_7 : decode cX6_columnOf 7 = .ok (.if_icmp .ge 21, 3) := by decide +kernel
theorem dX6_columnOf_10 : decode cX6_columnOf 10 = .ok (.aload_n 0, 1) := by decide +kernel
theorem dX6_columnOf_11 : decode cX6_columnOf 11 = .ok (.getfield 27, 3) := by decide +kernel
theorem dX6_columnOf_14 : decode cX6_columnOf 14 = .ok (.iload_n 2, 1) := by decide +kernel
theorem dX6_columnOf_15 : decode cX6_columnOf 15 = .ok (.iaload, 1) := by decide +kernel
theorem dX6_columnOf_16 : decode cX6_columnOf 16 = .ok (.iload_n 1, 1) := by decide +kernel
theorem dX6_columnOf_17 : decode cX6_columnOf 17 = .ok (.if_icmp .ne 5, 3) := by decide +kernel
theorem dX6_columnOf_20 : decode cX6_columnOf 20 = .ok (.iload_n 2, 1) := by decide +kernel
theorem dX6_columnOf_21 : decode cX6_columnOf 21 = .ok (.ireturn, 1) := by decide +kernel
theorem dX6_columnOf_22 : decode cX6_columnOf 22 = .ok (.iinc 2 1, 3) := by decide +kernel
theorem dX6_columnOf_25 : decode cX6_columnOf 25 = .ok (.goto (-23), 3) := by decide +kernel
theorem dX6_columnOf_28 : decode cX6_columnOf 28 = .ok (.iconst 0, 1) := by decide +kernel
theorem dX6_columnOf_29 : decode cX6_columnOf 29 = .ok (.ireturn, 1) := by decide +kernel
theorem dX6_seat_0 : decode cX6_seat 0 = .ok (.aload_n 0, 1) := by decide +kernel
theorem dX6_seat_1 : decode cX6_seat 1 = .ok (.invokevirtual 62, 3) := by decide +kernel
theorem dX6_seat_4 : decode cX6_seat 4 = .ok (.aload_n 0, 1) := by decide +kernel
theorem dX6_seat_5 : decode cX6_seat 5 = .ok (.getfield 16, 3) := by decide +kernel
theorem dX6_seat_8 : decode cX6_seat 8 = .ok (.istore_n 2, 1) := by decide +kernel
theorem dX6_seat_9 : decode cX6_seat 9 = .ok (.aload_n 0, 1) := by decide +kernel
theorem dX6_seat_10 : decode cX6_seat 10 = .ok (.getfield 27, 3) := by decide +kernel
theorem dX6_seat_13 : decode cX6_seat 13 = .ok (.aload_n 0, 1) := by decide +kernel
theorem dX6_seat_14 : decode cX6_seat 14 = .ok (.getfield 16, 3) := by decide +kernel
theorem dX6_seat_17 : decode cX6_seat 17 = .ok (.iload_n 1, 1) := by decide +kernel
theorem dX6_seat_18 : decode cX6_seat 18 = .ok (.iastore, 1) := by decide +kernel
theorem dX6_seat_19 : decode cX6_seat 19 = .ok (.iconst 0, 1) := by decide +kernel
theorem dX6_seat_20 : decode cX6_seat 20 = .ok (.istore_n 3, 1) := by decide +kernel
theorem dX6_seat_21 : decode cX6_seat 21 = .ok (.iload_n 3, 1) := by decide +kernel
theorem dX6_seat_22 : decode cX6_seat 22 = .ok (.aload_n 0, 1) := by decide +kernel
theorem dX6_seat_23 : decode cX6_seat 23 = .ok (.getfield 16, 3) := by decide +kernel
theorem dX6_seat_26 : decode cX6_seat 26 = .ok (.if_icmp .gt 32, 3) := by decide +kernel
theorem dX6_seat_29 : decode cX6_seat 29 = .ok (.aload_n 0, 1) := by decide +kernel
theorem dX6_seat_30 : decode cX6_seat 30 = .ok (.getfield 27, 3) := by decide +kernel
theorem dX6_seat_33 : decode cX6_seat 33 = .ok (.iload_n 2, 1) := by decide +kernel
theorem dX6_seat_34 : decode cX6_seat 34 = .ok (.iaload, 1) := by decide +kernel
theorem dX6_seat_35 : decode cX6_seat 35 = .ok (.iconst (-1), 1) := by decide +kernel
theorem dX6_seat_36 : decode cX6_seat 36 = .ok (.if_icmp .eq 22, 3) := by decide +kernel
theorem dX6_seat_39 : decode cX6_seat 39 = .ok (.aload_n 0, 1) := by decide +kernel
theorem dX6_seat_40 : decode cX6_seat 40 = .ok (.getfield 45, 3) := by decide +kernel
theorem dX6_seat_43 : decode cX6_seat 43 = .ok (.iload_n 2, 1) := by decide +kernel
theorem dX6_seat_44 : decode cX6_seat 44 = .ok (.iconst 1, 1) := by decide +kernel
theorem dX6_seat_45 : decode cX6_seat 45 = .ok (.bastore, 1) := by decide +kernel
theorem dX6_seat_46 : decode cX6_seat 46 = .ok (.aload_n 0, 1) := by decide +kernel
theorem dX6_seat_47 : decode cX6_seat 47 = .ok (.iload_n 2, 1) := by decide +kernel
theorem dX6_seat_48 : decode cX6_seat 48 = .ok (.invokevirtual 65, 3) := by decide +kernel
theorem dX6_seat_51 : decode cX6_seat 51 = .ok (.istore_n 2, 1) := by decide +kernel
theorem dX6_seat_52 : decode cX6_seat 52 = .ok (.iinc 3 1, 3) := by decide +kernel
theorem dX6_seat_55 : decode cX6_seat 55 = .ok (.goto (-34), 3) := by decide +kernel
theorem dX6_seat_58 : decode cX6_seat 58 = .ok (.iconst 0, 1) := by decide +kernel
theorem dX6_seat_59 : decode cX6_seat 59 = .ok (.istore_n 3, 1) := by decide +kernel
theorem dX6_seat_60 : decode cX6_seat 60 = .ok (.iload_n 3, 1) := by decide +kernel
theorem dX6_seat_61 : decode cX6_seat 61 = .ok (.aload_n 0, 1) := by decide +kernel
theorem dX6_seat_62 : decode cX6_seat 62 = .ok (.getfield 16, 3) := by decide +kernel
theorem dX6_seat_65 : decode cX6_seat 65 = .ok (.if_icmp .gt 41, 3) := by decide +kernel
theorem dX6_seat_68 : decode cX6_seat 68 = .ok (.iload_n 2, 1) := by decide +kernel
theorem dX6_seat_69 : decode cX6_seat 69 = .ok (.aload_n 0, 1) := by decide +kernel
theorem dX6_seat_70 : decode cX6_seat 70 = .ok (.getfield 16, 3) := by decide +kernel
theorem dX6_seat_73 : decode cX6_seat 73 = .ok (.if_icmp .eq 33, 3) := by decide +kernel
theorem dX6_seat_76 : decode cX6_seat 76 = .ok (.aload_n 0, 1) := by decide +kernel
theorem dX6_seat_77 : decode cX6_seat 77 = .ok (.getfield 42, 3) := by decide +kernel
theorem dX6_seat_80 : decode cX6_seat 80 = .ok (.iload_n 2, 1) := by decide +kernel
theorem dX6_seat_81 : decode cX6_seat 81 = .ok (.iaload, 1) := by decide +kernel
theorem dX6_seat_82 : decode cX6_seat 82 = .ok (.istore 4, 2) := by decide +kernel
theorem dX6_seat_84 : decode cX6_seat 84 = .ok (.aload_n 0, 1) := by decide +kernel
theorem dX6_seat_85 : decode cX6_seat 85 = .ok (.getfield 27, 3) := by decide +kernel
theorem dX6_seat_88 : decode cX6_seat 88 = .ok (.iload_n 2, 1) := by decide +kernel
theorem dX6_seat_89 : decode cX6_seat 89 = .ok (.aload_n 0, 1) := by decide +kernel
theorem dX6_seat_90 : decode cX6_seat 90 = .ok (.getfield 27, 3) := by decide +kernel
theorem dX6_seat_93 : decode cX6_seat 93 = .ok (.iload 4, 2) := by decide +kernel
theorem dX6_seat_95 : decode cX6_seat 95 = .ok (.iaload, 1) := by decide +kernel
theorem dX6_seat_96 : decode cX6_seat 96 = .ok (.iastore, 1) := by decide +kernel
theorem dX6_seat_97 : decode cX6_seat 97 = .ok (.iload 4, 2) := by decide +kernel
theorem dX6_seat_99 : decode cX6_seat 99 = .ok (.istore_n 2, 1) := by decide +kernel
theorem dX6_seat_100 : decode cX6_seat 100 = .ok (.iinc 3 1, 3) := by decide +kernel
theorem dX6_seat_103 : decode cX6_seat 103 = .ok (.goto (-43), 3) := by decide +kernel
theorem dX6_seat_106 : decode cX6_seat 106 = .ok (.aload_n 0, 1) := by decide +kernel
theorem dX6_seat_107 : decode cX6_seat 107 = .ok (.getfield 27, 3) := by decide +kernel
theorem dX6_seat_110 : decode cX6_seat 110 = .ok (.aload_n 0, 1) := by decide +kernel
theorem dX6_seat_111 : decode cX6_seat 111 = .ok (.getfield 16, 3) := by decide +kernel
theorem dX6_seat_114 : decode cX6_seat 114 = .ok (.iconst (-1), 1) := by decide +kernel
theorem dX6_seat_115 : decode cX6_seat 115 = .ok (.iastore, 1) := by decide +kernel
theorem dX6_seat_116 : decode cX6_seat 116 = .ok (.return_, 1) := by decide +kernel
theorem dX6_clearSearch_0 : decode cX6_clearSearch 0 = .ok (.iconst 0, 1) := by decide +kernel
theorem dX6_clearSearch_1 : decode cX6_clearSearch 1 = .ok (.istore_n 1, 1) := by decide +kernel
theorem dX6_clearSearch_2 : decode cX6_clearSearch 2 = .ok (.iload_n 1, 1) := by decide +kernel
theorem dX6_clearSearch_3 : decode cX6_clearSearch 3 = .ok (.aload_n 0, 1) := by decide +kernel
theorem dX6_clearSearch_4 : decode cX6_clearSearch 4 = .ok (.getfield 16, 3) := by decide +kernel
theorem dX6_clearSearch_7 : decode cX6_clearSearch 7 = .ok (.if_icmp .gt 34, 3) := by decide +kernel
theorem dX6_clearSearch_10 : decode cX6_clearSearch 10 = .ok (.aload_n 0, 1) := by decide +kernel
theorem dX6_clearSearch_11 : decode cX6_clearSearch 11 = .ok (.getfield 39, 3) := by decide +kernel
theorem dX6_clearSearch_14 : decode cX6_clearSearch 14 = .ok (.iload_n 1, 1) := by decide +kernel
theorem dX6_clearSearch_15 : decode cX6_clearSearch 15 = .ok (.ldc 69, 2) := by decide +kernel
theorem dX6_clearSearch_17 : decode cX6_clearSearch 17 = .ok (.iastore, 1) := by decide +kernel
theorem dX6_clearSearch_18 : decode cX6_clearSearch 18 = .ok (.aload_n 0, 1) := by decide +kernel
theorem dX6_clearSearch_19 : decode cX6_clearSearch 19 = .ok (.getfield 42, 3) := by decide +kernel
theorem dX6_clearSearch_22 : decode cX6_clearSearch 22 = .ok (.iload_n 1, 1) := by decide +kernel
theorem dX6_clearSearch_23 : decode cX6_clearSearch 23 = .ok (.aload_n 0, 1) := by decide +kernel
theorem dX6_clearSearch_24 : decode cX6_clearSearch 24 = .ok (.getfield 16, 3) := by decide +kernel
theorem dX6_clearSearch_27 : decode cX6_clearSearch 27 = .ok (.iastore, 1) := by decide +kernel
theorem dX6_clearSearch_28 : decode cX6_clearSearch 28 = .ok (.aload_n 0, 1) := by decide +kernel
theorem dX6_clearSearch_29 : decode cX6_clearSearch 29 = .ok (.getfield 45, 3) := by decide +kernel
theorem dX6_clearSearch_32 : decode cX6_clearSearch 32 = .ok (.iload_n 1, 1) := by decide +kernel
theorem dX6_clearSearch_33 : decode cX6_clearSearch 33 = .ok (.iconst 0, 1) := by decide +kernel
theorem dX6_clearSearch_34 : decode cX6_clearSearch 34 = .ok (.bastore, 1) := by decide +kernel
theorem dX6_clearSearch_35 : decode cX6_clearSearch 35 = .ok (.iinc 1 1, 3) := by decide +kernel
theorem dX6_clearSearch_38 : decode cX6_clearSearch 38 = .ok (.goto (-36), 3) := by decide +kernel
theorem dX6_clearSearch_41 : decode cX6_clearSearch 41 = .ok (.return_, 1) := by decide +kernel
theorem dX6_nextColumn_0 : decode cX6_nextColumn 0 = .ok (.aload_n 0, 1) := by decide +kernel
theorem dX6_nextColumn_1 : decode cX6_nextColumn 1 = .ok (.getfield 27, 3) := by decide +kernel
theorem dX6_nextColumn_4 : decode cX6_nextColumn 4 = .ok (.iload_n 1, 1) := by decide +kernel
theorem dX6_nextColumn_5 : decode cX6_nextColumn 5 = .ok (.iaload, 1) := by decide +kernel
theorem dX6_nextColumn_6 : decode cX6_nextColumn 6 = .ok (.istore_n 2, 1) := by decide +kernel
theorem dX6_nextColumn_7 : decode cX6_nextColumn 7 = .ok (.aload_n 0, 1) := by decide +kernel
theorem dX6_nextColumn_8 : decode cX6_nextColumn 8 = .ok (.getfield 16, 3) := by decide +kernel
theorem dX6_nextColumn_11 : decode cX6_nextColumn 11 = .ok (.istore_n 3, 1) := by decide +kernel
theorem dX6_nextColumn_12 : decode cX6_nextColumn 12 = .ok (.ldc 69, 2) := by decide +kernel
theorem dX6_nextColumn_14 : decode cX6_nextColumn 14 = .ok (.istore 4, 2) := by decide +kernel
theorem dX6_nextColumn_16 : decode cX6_nextColumn 16 = .ok (.iconst 0, 1) := by decide +kernel
theorem dX6_nextColumn_17 : decode cX6_nextColumn 17 = .ok (.istore 5, 2) := by decide +kernel
theorem dX6_nextColumn_19 : decode cX6_nextColumn 19 = .ok (.iload 5, 2) := by decide +kernel
theorem dX6_nextColumn_21 : decode cX6_nextColumn 21 = .ok (.aload_n 0, 1) := by decide +kernel
theorem dX6_nextColumn_22 : decode cX6_nextColumn 22 = .ok (.getfield 16, 3) := by decide +kernel
theorem dX6_nextColumn_25 : decode cX6_nextColumn 25 = .ok (.if_icmp .ge 98, 3) := by decide +kernel
theorem dX6_nextColumn_28 : decode cX6_nextColumn 28 = .ok (.aload_n 0, 1) := by decide +kernel
theorem dX6_nextColumn_29 : decode cX6_nextColumn 29 = .ok (.getfield 45, 3) := by decide +kernel
theorem dX6_nextColumn_32 : decode cX6_nextColumn 32 = .ok (.iload 5, 2) := by decide +kernel
theorem dX6_nextColumn_34 : decode cX6_nextColumn 34 = .ok (.baload, 1) := by decide +kernel
theorem dX6_nextColumn_35 : decode cX6_nextColumn 35 = .ok (.ifCond .ne 82, 3) := by decide +kernel
theorem dX6_nextColumn_38 : decode cX6_nextColumn 38 = .ok (.aload_n 0, 1) := by decide +kernel
theorem dX6_nextColumn_39 : decode cX6_nextColumn 39 = .ok (.getfield 20, 3) := by decide +kernel
theorem dX6_nextColumn_42 : decode cX6_nextColumn 42 = .ok (.iload_n 2, 1) := by decide +kernel
theorem dX6_nextColumn_43 : decode cX6_nextColumn 43 = .ok (.iaload, 1) := by decide +kernel
theorem dX6_nextColumn_44 : decode cX6_nextColumn 44 = .ok (.aload_n 0, 1) := by decide +kernel
theorem dX6_nextColumn_45 : decode cX6_nextColumn 45 = .ok (.getfield 24, 3) := by decide +kernel
theorem dX6_nextColumn_48 : decode cX6_nextColumn 48 = .ok (.iload 5, 2) := by decide +kernel
theorem dX6_nextColumn_50 : decode cX6_nextColumn 50 = .ok (.iaload, 1) := by decide +kernel
theorem dX6_nextColumn_51 : decode cX6_nextColumn 51 = .ok (.iadd, 1) := by decide +kernel
theorem dX6_nextColumn_52 : decode cX6_nextColumn 52 = .ok (.aload_n 0, 1) := by decide +kernel
theorem dX6_nextColumn_53 : decode cX6_nextColumn 53 = .ok (.getfield 11, 3) := by decide +kernel
theorem dX6_nextColumn_56 : decode cX6_nextColumn 56 = .ok (.iload_n 2, 1) := by decide +kernel
theorem dX6_nextColumn_57 : decode cX6_nextColumn 57 = .ok (.aaload, 1) := by decide +kernel
theorem dX6_nextColumn_58 : decode cX6_nextColumn 58 = .ok (.iload 5, 2) := by decide +kernel
theorem dX6_nextColumn_60 : decode cX6_nextColumn 60 = .ok (.iaload, 1) := by decide +kernel
theorem dX6_nextColumn_61 : decode cX6_nextColumn 61 = .ok (.isub, 1) := by decide +kernel
theorem dX6_nextColumn_62 : decode cX6_nextColumn 62 = .ok (.istore 6, 2) := by decide +kernel
theorem dX6_nextColumn_64 : decode cX6_nextColumn 64 = .ok (.iload 6, 2) := by decide +kernel
theorem dX6_nextColumn_66 : decode cX6_nextColumn 66 = .ok (.aload_n 0, 1) := by decide +kernel
theorem dX6_nextColumn_67 : decode cX6_nextColumn 67 = .ok (.getfield 39, 3) := by decide +kernel
theorem dX6_nextColumn_70 : decode cX6_nextColumn 70 = .ok (.iload 5, 2) := by decide +kernel
theorem dX6_nextColumn_72 : decode cX6_nextColumn 72 = .ok (.iaload, 1) := by decide +kernel
theorem dX6_nextColumn_73 : decode cX6_nextColumn 73 = .ok (.if_icmp .ge 20, 3) := by decide +kernel
theorem dX6_nextColumn_76 : decode cX6_nextColumn 76 = .ok (.aload_n 0, 1) := by decide +kernel
theorem dX6_nextColumn_77 : decode cX6_nextColumn 77 = .ok (.getfield 39, 3) := by decide +kernel
theorem dX6_nextColumn_80 : decode cX6_nextColumn 80 = .ok (.iload 5, 2) := by decide +kernel
theorem dX6_nextColumn_82 : decode cX6_nextColumn 82 = .ok (.iload 6, 2) := by decide +kernel
theorem dX6_nextColumn_84 : decode cX6_nextColumn 84 = .ok (.iastore, 1) := by decide +kernel
theorem dX6_nextColumn_85 : decode cX6_nextColumn 85 = .ok (.aload_n 0, 1) := by decide +kernel
theorem dX6_nextColumn_86 : decode cX6_nextColumn 86 = .ok (.getfield 42, 3) := by decide +kernel
theorem dX6_nextColumn_89 : decode cX6_nextColumn 89 = .ok (.iload 5, 2) := by decide +kernel
theorem dX6_nextColumn_91 : decode cX6_nextColumn 91 = .ok (.iload_n 1, 1) := by decide +kernel
theorem dX6_nextColumn_92 : decode cX6_nextColumn 92 = .ok (.iastore, 1) := by decide +kernel
theorem dX6_nextColumn_93 : decode cX6_nextColumn 93 = .ok (.aload_n 0, 1) := by decide +kernel
theorem dX6_nextColumn_94 : decode cX6_nextColumn 94 = .ok (.getfield 39, 3) := by decide +kernel
theorem dX6_nextColumn_97 : decode cX6_nextColumn 97 = .ok (.iload 5, 2) := by decide +kernel
theorem dX6_nextColumn_99 : decode cX6_nextColumn 99 = .ok (.iaload, 1) := by decide +kernel
theorem dX6_nextColumn_100 : decode cX6_nextColumn 100 = .ok (.iload 4, 2) := by decide +kernel
theorem dX6_nextColumn_102 : decode cX6_nextColumn 102 = .ok (.if_icmp .ge 15, 3) := by decide +kernel
theorem dX6_nextColumn_105 : decode cX6_nextColumn 105 = .ok (.aload_n 0, 1) := by decide +kernel
theorem dX6_nextColumn_106 : decode cX6_nextColumn 106 = .ok (.getfield 39, 3) := by decide +kernel
theorem dX6_nextColumn_109 : decode cX6_nextColumn 109 = .ok (.iload 5, 2) := by decide +kernel
theorem dX6_nextColumn_111 : decode cX6_nextColumn 111 = .ok (.iaload, 1) := by decide +kernel
theorem dX6_nextColumn_112 : decode cX6_nextColumn 112 = .ok (.istore 4, 2) := by decide +kernel
theorem dX6_nextColumn_114 : decode cX6_nextColumn 114 = .ok (.iload 5, 2) := by decide +kernel
theorem dX6_nextColumn_116 : decode cX6_nextColumn 116 = .ok (.istore_n 3, 1) := by decide +kernel
theorem dX6_nextColumn_117 : decode cX6_nextColumn 117 = .ok (.iinc 5 1, 3) := by decide +kernel
theorem dX6_nextColumn_120 : decode cX6_nextColumn 120 = .ok (.goto (-101), 3) := by decide +kernel
theorem dX6_nextColumn_123 : decode cX6_nextColumn 123 = .ok (.iconst 0, 1) := by decide +kernel
theorem dX6_nextColumn_124 : decode cX6_nextColumn 124 = .ok (.istore 5, 2) := by decide +kernel
theorem dX6_nextColumn_126 : decode cX6_nextColumn 126 = .ok (.iload 5, 2) := by decide +kernel
theorem dX6_nextColumn_128 : decode cX6_nextColumn 128 = .ok (.aload_n 0, 1) := by decide +kernel
theorem dX6_nextColumn_129 : decode cX6_nextColumn 129 = .ok (.getfield 16, 3) := by decide +kernel
theorem dX6_nextColumn_132 : decode cX6_nextColumn 132 = .ok (.if_icmp .gt 63, 3) := by decide +kernel
theorem dX6_nextColumn_135 : decode cX6_nextColumn 135 = .ok (.aload_n 0, 1) := by decide +kernel
theorem dX6_nextColumn_136 : decode cX6_nextColumn 136 = .ok (.getfield 45, 3) := by decide +kernel
theorem dX6_nextColumn_139 : decode cX6_nextColumn 139 = .ok (.iload 5, 2) := by decide +kernel
theorem dX6_nextColumn_141 : decode cX6_nextColumn 141 = .ok (.baload, 1) := by decide +kernel
theorem dX6_nextColumn_142 : decode cX6_nextColumn 142 = .ok (.ifCond .eq 35, 3) := by decide +kernel
theorem dX6_nextColumn_145 : decode cX6_nextColumn 145 = .ok (.aload_n 0, 1) := by decide +kernel
theorem dX6_nextColumn_146 : decode cX6_nextColumn 146 = .ok (.getfield 20, 3) := by decide +kernel
theorem dX6_nextColumn_149 : decode cX6_nextColumn 149 = .ok (.aload_n 0, 1) := by decide +kernel
theorem dX6_nextColumn_150 : decode cX6_nextColumn 150 = .ok (.getfield 27, 3) := by decide +kernel
theorem dX6_nextColumn_153 : decode cX6_nextColumn 153 = .ok (.iload 5, 2) := by decide +kernel
theorem dX6_nextColumn_155 : decode cX6_nextColumn 155 = .ok (.iaload, 1) := by decide +kernel
theorem dX6_nextColumn_156 : decode cX6_nextColumn 156 = .ok (.dup2, 1) := by decide +kernel
theorem dX6_nextColumn_157 : decode cX6_nextColumn 157 = .ok (.iaload, 1) := by decide +kernel
theorem dX6_nextColumn_158 : decode cX6_nextColumn 158 = .ok (.iload 4, 2) := by decide +kernel
theorem dX6_nextColumn_160 : decode cX6_nextColumn 160 = .ok (.isub, 1) := by decide +kernel
theorem dX6_nextColumn_161 : decode cX6_nextColumn 161 = .ok (.iastore, 1) := by decide +kernel
theorem dX6_nextColumn_162 : decode cX6_nextColumn 162 = .ok (.aload_n 0, 1) := by decide +kernel
theorem dX6_nextColumn_163 : decode cX6_nextColumn 163 = .ok (.getfield 24, 3) := by decide +kernel
theorem dX6_nextColumn_166 : decode cX6_nextColumn 166 = .ok (.iload 5, 2) := by decide +kernel
theorem dX6_nextColumn_168 : decode cX6_nextColumn 168 = .ok (.dup2, 1) := by decide +kernel
theorem dX6_nextColumn_169 : decode cX6_nextColumn 169 = .ok (.iaload, 1) := by decide +kernel
theorem dX6_nextColumn_170 : decode cX6_nextColumn 170 = .ok (.iload 4, 2) := by decide +kernel
theorem dX6_nextColumn_172 : decode cX6_nextColumn 172 = .ok (.iadd, 1) := by decide +kernel
theorem dX6_nextColumn_173 : decode cX6_nextColumn 173 = .ok (.iastore, 1) := by decide +kernel
theorem dX6_nextColumn_174 : decode cX6_nextColumn 174 = .ok (.goto 15, 3) := by decide +kernel
theorem dX6_nextColumn_177 : decode cX6_nextColumn 177 = .ok (.aload_n 0, 1) := by decide +kernel
theorem dX6_nextColumn_178 : decode cX6_nextColumn 178 = .ok (.getfield 39, 3) := by decide +kernel
theorem dX6_nextColumn_181 : decode cX6_nextColumn 181 = .ok (.iload 5, 2) := by decide +kernel
theorem dX6_nextColumn_183 : decode cX6_nextColumn 183 = .ok (.dup2, 1) := by decide +kernel
theorem dX6_nextColumn_184 : decode cX6_nextColumn 184 = .ok (.iaload, 1) := by decide +kernel
theorem dX6_nextColumn_185 : decode cX6_nextColumn 185 = .ok (.iload 4, 2) := by decide +kernel
theorem dX6_nextColumn_187 : decode cX6_nextColumn 187 = .ok (.isub, 1) := by decide +kernel
theorem dX6_nextColumn_188 : decode cX6_nextColumn 188 = .ok (.iastore, 1) := by decide +kernel
theorem dX6_nextColumn_189 : decode cX6_nextColumn 189 = .ok (.iinc 5 1, 3) := by decide +kernel
theorem dX6_nextColumn_192 : decode cX6_nextColumn 192 = .ok (.goto (-66), 3) := by decide +kernel
theorem dX6_nextColumn_195 : decode cX6_nextColumn 195 = .ok (.iload_n 3, 1) := by decide +kernel
theorem dX6_nextColumn_196 : decode cX6_nextColumn 196 = .ok (.ireturn, 1) := by decide +kernel
theorem dX6_favourFirst_0 : decode cX6_favourFirst 0 = .ok (.iconst 0, 1) := by decide +kernel
theorem dX6_favourFirst_1 : decode cX6_favourFirst 1 = .ok (.istore_n 1, 1) := by decide +kernel
theorem dX6_favourFirst_2 : decode cX6_favourFirst 2 = .ok (.iload_n 1, 1) := by decide +kernel
theorem dX6_favourFirst_3 : decode cX6_favourFirst 3 = .ok (.aload_n 0, 1) := by decide +kernel
theorem dX6_favourFirst_4 : decode cX6_favourFirst 4 = .ok (.getfield 16, 3) := by decide +kernel
theorem dX6_favourFirst_7 : decode cX6_favourFirst 7 = .ok (.if_icmp .ge 14, 3) := by decide +kernel
theorem dX6_favourFirst_10 : decode cX6_favourFirst 10 = .ok (.aload_n 0, 1) := by decide +kernel
theorem dX6_favourFirst_11 : decode cX6_favourFirst 11 = .ok (.iload_n 1, 1) := by decide +kernel
theorem dX6_favourFirst_12 : decode cX6_favourFirst 12 = .ok (.invokevirtual 70, 3) := by decide +kernel
theorem dX6_favourFirst_15 : decode cX6_favourFirst 15 = .ok (.iinc 1 1, 3) := by decide +kernel
theorem dX6_favourFirst_18 : decode cX6_favourFirst 18 = .ok (.goto (-16), 3) := by decide +kernel
theorem dX6_favourFirst_21 : decode cX6_favourFirst 21 = .ok (.return_, 1) := by decide +kernel
theorem dX6_settle_0 : decode cX6_settle 0 = .ok (.iconst 0, 1) := by decide +kernel
theorem dX6_settle_1 : decode cX6_settle 1 = .ok (.istore_n 2, 1) := by decide +kernel
theorem dX6_settle_2 : decode cX6_settle 2 = .ok (.iload_n 2, 1) := by decide +kernel
theorem dX6_settle_3 : decode cX6_settle 3 = .ok (.aload_n 0, 1) := by decide +kernel
theorem dX6_settle_4 : decode cX6_settle 4 = .ok (.getfield 16, 3) := by decide +kernel
theorem dX6_settle_7 : decode cX6_settle 7 = .ok (.if_icmp .ge 55, 3) := by decide +kernel
theorem dX6_settle_10 : decode cX6_settle 10 = .ok (.aload_n 0, 1) := by decide +kernel
theorem dX6_settle_11 : decode cX6_settle 11 = .ok (.getfield 49, 3) := by decide +kernel
theorem dX6_settle_14 : decode cX6_settle 14 = .ok (.iload_n 2, 1) := by decide +kernel
theorem dX6_settle_15 : decode cX6_settle 15 = .ok (.baload, 1) := by decide +kernel
theorem dX6_settle_16 : decode cX6_settle 16 = .ok (.ifCond .ne 40, 3) := by decide +kernel
theorem dX6_settle_19 : decode cX6_settle 19 = .ok (.aload_n 0, 1) := by decide +kernel
theorem dX6_settle_20 : decode cX6_settle 20 = .ok (.getfield 11, 3) := by decide +kernel
theorem dX6_settle_23 : decode cX6_settle 23 = .ok (.iload_n 1, 1) := by decide +kernel
theorem dX6_settle_24 : decode cX6_settle 24 = .ok (.aaload, 1) := by decide +kernel
theorem dX6_settle_25 : decode cX6_settle 25 = .ok (.iload_n 2, 1) := by decide +kernel
theorem dX6_settle_26 : decode cX6_settle 26 = .ok (.iaload, 1) := by decide +kernel
theorem dX6_settle_27 : decode cX6_settle 27 = .ok (.ifCond .le 29, 3) := by decide +kernel
theorem dX6_settle_30 : decode cX6_settle 30 = .ok (.aload_n 0, 1) := by decide +kernel
theorem dX6_settle_31 : decode cX6_settle 31 = .ok (.iload_n 1, 1) := by decide +kernel
theorem dX6_settle_32 : decode cX6_settle 32 = .ok (.iload_n 2, 1) := by decide +kernel
theorem dX6_settle_33 : decode cX6_settle 33 = .ok (.invokevirtual 73, 3) := by decide +kernel
theorem dX6_settle_36 : decode cX6_settle 36 = .ok (.ifCond .eq 20, 3) := by decide +kernel
theorem dX6_settle_39 : decode cX6_settle 39 = .ok (.aload_n 0, 1) := by decide +kernel
theorem dX6_settle_40 : decode cX6_settle 40 = .ok (.iload_n 1, 1) := by decide +kernel
theorem dX6_settle_41 : decode cX6_settle 41 = .ok (.iload_n 2, 1) := by decide +kernel
theorem dX6_settle_42 : decode cX6_settle 42 = .ok (.invokevirtual 77, 3) := by decide +kernel
theorem dX6_settle_45 : decode cX6_settle 45 = .ok (.ifCond .eq 11, 3) := by decide +kernel
theorem dX6_settle_48 : decode cX6_settle 48 = .ok (.aload_n 0, 1) := by decide +kernel
theorem dX6_settle_49 : decode cX6_settle 49 = .ok (.getfield 49, 3) := by decide +kernel
theorem dX6_settle_52 : decode cX6_settle 52 = .ok (.iload_n 2, 1) := by decide +kernel
theorem dX6_settle_53 : decode cX6_settle 53 = .ok (.iconst 1, 1) := by decide +kernel
theorem dX6_settle_54 : decode cX6_settle 54 = .ok (.bastore, 1) := by decide +kernel
theorem dX6_settle_55 : decode cX6_settle 55 = .ok (.return_, 1) := by decide +kernel
theorem dX6_settle_56 : decode cX6_settle 56 = .ok (.iinc 2 1, 3) := by decide +kernel
theorem dX6_settle_59 : decode cX6_settle 59 = .ok (.goto (-57), 3) := by decide +kernel
theorem dX6_settle_62 : decode cX6_settle 62 = .ok (.return_, 1) := by decide +kernel
theorem dX6_isTight_0 : decode cX6_isTight 0 = .ok (.aload_n 0, 1) := by decide +kernel
theorem dX6_isTight_1 : decode cX6_isTight 1 = .ok (.getfield 20, 3) := by decide +kernel
theorem dX6_isTight_4 : decode cX6_isTight 4 = .ok (.iload_n 1, 1) := by decide +kernel
theorem dX6_isTight_5 : decode cX6_isTight 5 = .ok (.iaload, 1) := by decide +kernel
theorem dX6_isTight_6 : decode cX6_isTight 6 = .ok (.aload_n 0, 1) := by decide +kernel
theorem dX6_isTight_7 : decode cX6_isTight 7 = .ok (.getfield 24, 3) := by decide +kernel
theorem dX6_isTight_10 : decode cX6_isTight 10 = .ok (.iload_n 2, 1) := by decide +kernel
theorem dX6_isTight_11 : decode cX6_isTight 11 = .ok (.iaload, 1) := by decide +kernel
theorem dX6_isTight_12 : decode cX6_isTight 12 = .ok (.iadd, 1) := by decide +kernel
theorem dX6_isTight_13 : decode cX6_isTight 13 = .ok (.aload_n 0, 1) := by decide +kernel
theorem dX6_isTight_14 : decode cX6_isTight 14 = .ok (.getfield 11, 3) := by decide +kernel
theorem dX6_isTight_17 : decode cX6_isTight 17 = .ok (.iload_n 1, 1) := by decide +kernel
theorem dX6_isTight_18 : decode cX6_isTight 18 = .ok (.aaload, 1) := by decide +kernel
theorem dX6_isTight_19 : decode cX6_isTight 19 = .ok (.iload_n 2, 1) := by decide +kernel
theorem dX6_isTight_20 : decode cX6_isTight 20 = .ok (.iaload, 1) := by decide +kernel
theorem dX6_isTight_21 : decode cX6_isTight 21 = .ok (.if_icmp .ne 7, 3) := by decide +kernel
theorem dX6_isTight_24 : decode cX6_isTight 24 = .ok (.iconst 1, 1) := by decide +kernel
theorem dX6_isTight_25 : decode cX6_isTight 25 = .ok (.goto 4, 3) := by decide +kernel
theorem dX6_isTight_28 : decode cX6_isTight 28 = .ok (.iconst 0, 1) := by decide +kernel
theorem dX6_isTight_29 : decode cX6_isTight 29 = .ok (.ireturn, 1) := by decide +kernel
theorem dX6_canSit_0 : decode cX6_canSit 0 = .ok (.aload_n 0, 1) := by decide +kernel
theorem dX6_canSit_1 : decode cX6_canSit 1 = .ok (.getfield 27, 3) := by decide +kernel
theorem dX6_canSit_4 : decode cX6_canSit 4 = .ok (.iload_n 2, 1) := by decide +kernel
theorem dX6_canSit_5 : decode cX6_canSit 5 = .ok (.iaload, 1) := by decide +kernel
theorem dX6_canSit_6 : decode cX6_canSit 6 = .ok (.istore_n 3, 1) := by decide +kernel
theorem dX6_canSit_7 : decode cX6_canSit 7 = .ok (.iload_n 3, 1) := by decide +kernel
theorem dX6_canSit_8 : decode cX6_canSit 8 = .ok (.iload_n 1, 1) := by decide +kernel
theorem dX6_canSit_9 : decode cX6_canSit 9 = .ok (.if_icmp .ne 5, 3) := by decide +kernel
theorem dX6_canSit_12 : decode cX6_canSit 12 = .ok (.iconst 1, 1) := by decide +kernel
theorem dX6_canSit_13 : decode cX6_canSit 13 = .ok (.ireturn, 1) := by decide +kernel
theorem dX6_canSit_14 : decode cX6_canSit 14 = .ok (.aload_n 0, 1) := by decide +kernel
theorem dX6_canSit_15 : decode cX6_canSit 15 = .ok (.iload_n 1, 1) := by decide +kernel
theorem dX6_canSit_16 : decode cX6_canSit 16 = .ok (.invokevirtual 80, 3) := by decide +kernel
theorem dX6_canSit_19 : decode cX6_canSit 19 = .ok (.istore 4, 2) := by decide +kernel
theorem dX6_canSit_21 : decode cX6_canSit 21 = .ok (.aload_n 0, 1) := by decide +kernel
theorem dX6_canSit_22 : decode cX6_canSit 22 = .ok (.invokevirtual 62, 3) := by decide +kernel
theorem dX6_canSit_25 : decode cX6_canSit 25 = .ok (.aload_n 0, 1) := by decide +kernel
theorem dX6_canSit_26 : decode cX6_canSit 26 = .ok (.getfield 45, 3) := by decide +kernel
theorem dX6_canSit_29 : decode cX6_canSit 29 = .ok (.iload_n 2, 1) := by decide +kernel
theorem dX6_canSit_30 : decode cX6_canSit 30 = .ok (.iconst 1, 1) := by decide +kernel
theorem dX6_canSit_31 : decode cX6_canSit 31 = .ok (.bastore, 1) := by decide +kernel
theorem dX6_canSit_32 : decode cX6_canSit 32 = .ok (.aload_n 0, 1) := by decide +kernel
theorem dX6_canSit_33 : decode cX6_canSit 33 = .ok (.getfield 27, 3) := by decide +kernel
theorem dX6_canSit_36 : decode cX6_canSit 36 = .ok (.iload 4, 2) := by decide +kernel
theorem dX6_canSit_38 : decode cX6_canSit 38 = .ok (.iconst (-1), 1) := by decide +kernel
theorem dX6_canSit_39 : decode cX6_canSit 39 = .ok (.iastore, 1) := by decide +kernel
theorem dX6_canSit_40 : decode cX6_canSit 40 = .ok (.aload_n 0, 1) := by decide +kernel
theorem dX6_canSit_41 : decode cX6_canSit 41 = .ok (.getfield 27, 3) := by decide +kernel
theorem dX6_canSit_44 : decode cX6_canSit 44 = .ok (.iload_n 2, 1) := by decide +kernel
theorem dX6_canSit_45 : decode cX6_canSit 45 = .ok (.iload_n 1, 1) := by decide +kernel
theorem dX6_canSit_46 : decode cX6_canSit 46 = .ok (.iastore, 1) := by decide +kernel
theorem dX6_canSit_47 : decode cX6_canSit 47 = .ok (.iload_n 3, 1) := by decide +kernel
theorem dX6_canSit_48 : decode cX6_canSit 48 = .ok (.iconst (-1), 1) := by decide +kernel
theorem dX6_canSit_49 : decode cX6_canSit 49 = .ok (.if_icmp .eq 12, 3) := by decide +kernel
theorem dX6_canSit_52 : decode cX6_canSit 52 = .ok (.aload_n 0, 1) := by decide +kernel
theorem dX6_canSit_53 : decode cX6_canSit 53 = .ok (.iload_n 3, 1) := by decide +kernel
theorem dX6_canSit_54 : decode cX6_canSit 54 = .ok (.iconst 0, 1) := by decide +kernel
theorem dX6_canSit_55 : decode cX6_canSit 55 = .ok (.invokevirtual 83, 3) := by decide +kernel
theorem dX6_canSit_58 : decode cX6_canSit 58 = .ok (.ifCond .eq 5, 3) := by decide +kernel
theorem dX6_canSit_61 : decode cX6_canSit 61 = .ok (.iconst 1, 1) := by decide +kernel
theorem dX6_canSit_62 : decode cX6_canSit 62 = .ok (.ireturn, 1) := by decide +kernel
theorem dX6_canSit_63 : decode cX6_canSit 63 = .ok (.aload_n 0, 1) := by decide +kernel
theorem dX6_canSit_64 : decode cX6_canSit 64 = .ok (.getfield 27, 3) := by decide +kernel
theorem dX6_canSit_67 : decode cX6_canSit 67 = .ok (.iload 4, 2) := by decide +kernel
theorem dX6_canSit_69 : decode cX6_canSit 69 = .ok (.iload_n 1, 1) := by decide +kernel
theorem dX6_canSit_70 : decode cX6_canSit 70 = .ok (.iastore, 1) := by decide +kernel
theorem dX6_canSit_71 : decode cX6_canSit 71 = .ok (.aload_n 0, 1) := by decide +kernel
theorem dX6_canSit_72 : decode cX6_canSit 72 = .ok (.getfield 27, 3) := by decide +kernel
theorem dX6_canSit_75 : decode cX6_canSit 75 = .ok (.iload_n 2, 1) := by decide +kernel
theorem dX6_canSit_76 : decode cX6_canSit 76 = .ok (.iload_n 3, 1) := by decide +kernel
theorem dX6_canSit_77 : decode cX6_canSit 77 = .ok (.iastore, 1) := by decide +kernel
theorem dX6_canSit_78 : decode cX6_canSit 78 = .ok (.iconst 0, 1) := by decide +kernel
theorem dX6_canSit_79 : decode cX6_canSit 79 = .ok (.ireturn, 1) := by decide +kernel
theorem dX6_moves_0 : decode cX6_moves 0 = .ok (.iload_n 2, 1) := by decide +kernel
theorem dX6_moves_1 : decode cX6_moves 1 = .ok (.bipush 14, 2) := by decide +kernel
theorem dX6_moves_3 : decode cX6_moves 3 = .ok (.if_icmp .lt 5, 3) := by decide +kernel
theorem dX6_moves_6 : decode cX6_moves 6 = .ok (.iconst 0, 1) := by decide +kernel
theorem dX6_moves_7 : decode cX6_moves 7 = .ok (.ireturn, 1) := by decide +kernel
theorem dX6_moves_8 : decode cX6_moves 8 = .ok (.iconst 0, 1) := by decide +kernel
theorem dX6_moves_9 : decode cX6_moves 9 = .ok (.istore_n 3, 1) := by decide +kernel
theorem dX6_moves_10 : decode cX6_moves 10 = .ok (.iload_n 3, 1) := by decide +kernel
theorem dX6_moves_11 : decode cX6_moves 11 = .ok (.aload_n 0, 1) := by decide +kernel
theorem dX6_moves_12 : decode cX6_moves 12 = .ok (.getfield 16, 3) := by decide +kernel
theorem dX6_moves_15 : decode cX6_moves 15 = .ok (.if_icmp .ge 78, 3) := by decide +kernel
theorem dX6_moves_18 : decode cX6_moves 18 = .ok (.aload_n 0, 1) := by decide +kernel
theorem dX6_moves_19 : decode cX6_moves 19 = .ok (.getfield 45, 3) := by decide +kernel
theorem dX6_moves_22 : decode cX6_moves 22 = .ok (.iload_n 3, 1) := by decide +kernel
theorem dX6_moves_23 : decode cX6_moves 23 = .ok (.baload, 1) := by decide +kernel
theorem dX6_moves_24 : decode cX6_moves 24 = .ok (.ifCond .ne 63, 3) := by decide +kernel
theorem dX6_moves_27 : decode cX6_moves 27 = .ok (.aload_n 0, 1) := by decide +kernel
theorem dX6_moves_28 : decode cX6_moves 28 = .ok (.getfield 49, 3) := by decide +kernel
theorem dX6_moves_31 : decode cX6_moves 31 = .ok (.iload_n 3, 1) := by decide +kernel
theorem dX6_moves_32 : decode cX6_moves 32 = .ok (.baload, 1) := by decide +kernel
theorem dX6_moves_33 : decode cX6_moves 33 = .ok (.ifCond .ne 54, 3) := by decide +kernel
theorem dX6_moves_36 : decode cX6_moves 36 = .ok (.aload_n 0, 1) := by decide +kernel
theorem dX6_moves_37 : decode cX6_moves 37 = .ok (.iload_n 1, 1) := by decide +kernel
theorem dX6_moves_38 : decode cX6_moves 38 = .ok (.iload_n 3, 1) := by decide +kernel
theorem dX6_moves_39 : decode cX6_moves 39 = .ok (.invokevirtual 73, 3) := by decide +kernel
theorem dX6_moves_42 : decode cX6_moves 42 = .ok (.ifCond .eq 45, 3) := by decide +kernel
theorem dX6_moves_45 : decode cX6_moves 45 = .ok (.aload_n 0, 1) := by decide +kernel
theorem dX6_moves_46 : decode cX6_moves 46 = .ok (.getfield 45, 3) := by decide +kernel
theorem dX6_moves_49 : decode cX6_moves 49 = .ok (.iload_n 3, 1) := by decide +kernel
theorem dX6_moves_50 : decode cX6_moves 50 = .ok (.iconst 1, 1) := by decide +kernel
theorem dX6_moves_51 : decode cX6_moves 51 = .ok (.bastore, 1) := by decide +kernel
theorem dX6_moves_52 : decode cX6_moves 52 = .ok (.aload_n 0, 1) := by decide +kernel
theorem dX6_moves_53 : decode cX6_moves 53 = .ok (.getfield 27, 3) := by decide +kernel
theorem dX6_moves_56 : decode cX6_moves 56 = .ok (.iload_n 3, 1) := by decide +kernel
theorem dX6_moves_57 : decode cX6_moves 57 = .ok (.iaload, 1) := by decide +kernel
theorem dX6_moves_58 : decode cX6_moves 58 = .ok (.iconst (-1), 1) := by decide +kernel
theorem dX6_moves_59 : decode cX6_moves 59 = .ok (.if_icmp .eq 19, 3) := by decide +kernel
theorem dX6_moves_62 : decode cX6_moves 62 = .ok (.aload_n 0, 1) := by decide +kernel
theorem dX6_moves_63 : decode cX6_moves 63 = .ok (.aload_n 0, 1) := by decide +kernel
theorem dX6_moves_64 : decode cX6_moves 64 = .ok (.getfield 27, 3) := by decide +kernel
theorem dX6_moves_67 : decode cX6_moves 67 = .ok (.iload_n 3, 1) := by decide +kernel
theorem dX6_moves_68 : decode cX6_moves 68 = .ok (.iaload, 1) := by decide +kernel
theorem dX6_moves_69 : decode cX6_moves 69 = .ok (.iload_n 2, 1) := by decide +kernel
theorem dX6_moves_70 : decode cX6_moves 70 = .ok (.iconst 1, 1) := by decide +kernel
theorem dX6_moves_71 : decode cX6_moves 71 = .ok (.iadd, 1) := by decide +kernel
theorem dX6_moves_72 : decode cX6_moves 72 = .ok (.invokevirtual 83, 3) := by decide +kernel
theorem dX6_moves_75 : decode cX6_moves 75 = .ok (.ifCond .eq 12, 3) := by decide +kernel
theorem dX6_moves_78 : decode cX6_moves 78 = .ok (.aload_n 0, 1) := by decide +kernel
theorem dX6_moves_79 : decode cX6_moves 79 = .ok (.getfield 27, 3) := by decide +kernel
theorem dX6_moves_82 : decode cX6_moves 82 = .ok (.iload_n 3, 1) := by decide +kernel
theorem dX6_moves_83 : decode cX6_moves 83 = .ok (.iload_n 1, 1) := by decide +kernel
theorem dX6_moves_84 : decode cX6_moves 84 = .ok (.iastore, 1) := by decide +kernel
theorem dX6_moves_85 : decode cX6_moves 85 = .ok (.iconst 1, 1) := by decide +kernel
theorem dX6_moves_86 : decode cX6_moves 86 = .ok (.ireturn, 1) := by decide +kernel
theorem dX6_moves_87 : decode cX6_moves 87 = .ok (.iinc 3 1, 3) := by decide +kernel
theorem dX6_moves_90 : decode cX6_moves 90 = .ok (.goto (-80), 3) := by decide +kernel
theorem dX6_moves_93 : decode cX6_moves 93 = .ok (.iconst 0, 1) := by decide +kernel
theorem dX6_moves_94 : decode cX6_moves 94 = .ok (.ireturn, 1) := by decide +kernel
theorem dX6_keep_0 : decode cX6_keep 0 = .ok (.aload_n 0, 1) := by decide +kernel
theorem dX6_keep_1 : decode cX6_keep 1 = .ok (.getfield 20, 3) := by decide +kernel
theorem dX6_keep_4 : decode cX6_keep 4 = .ok (.iconst 0, 1) := by decide +kernel
theorem dX6_keep_5 : decode cX6_keep 5 = .ok (.aload_n 0, 1) := by decide +kernel
theorem dX6_keep_6 : decode cX6_keep 6 = .ok (.getfield 30, 3) := by decide +kernel
theorem dX6_keep_9 : decode cX6_keep 9 = .ok (.iconst 0, 1) := by decide +kernel
theorem dX6_keep_10 : decode cX6_keep 10 = .ok (.bipush 14, 2) := by decide +kernel
theorem dX6_keep_12 : decode cX6_keep 12 = .ok (.invokestatic 86, 3) := by decide +kernel
theorem dX6_keep_15 : decode cX6_keep 15 = .ok (.aload_n 0, 1) := by decide +kernel
theorem dX6_keep_16 : decode cX6_keep 16 = .ok (.getfield 24, 3) := by decide +kernel
theorem dX6_keep_19 : decode cX6_keep 19 = .ok (.iconst 0, 1) := by decide +kernel
theorem dX6_keep_20 : decode cX6_keep 20 = .ok (.aload_n 0, 1) := by decide +kernel
theorem dX6_keep_21 : decode cX6_keep 21 = .ok (.getfield 33, 3) := by decide +kernel
theorem dX6_keep_24 : decode cX6_keep 24 = .ok (.iconst 0, 1) := by decide +kernel
theorem dX6_keep_25 : decode cX6_keep 25 = .ok (.bipush 15, 2) := by decide +kernel
theorem dX6_keep_27 : decode cX6_keep 27 = .ok (.invokestatic 86, 3) := by decide +kernel
theorem dX6_keep_30 : decode cX6_keep 30 = .ok (.aload_n 0, 1) := by decide +kernel
theorem dX6_keep_31 : decode cX6_keep 31 = .ok (.getfield 27, 3) := by decide +kernel
theorem dX6_keep_34 : decode cX6_keep 34 = .ok (.iconst 0, 1) := by decide +kernel
theorem dX6_keep_35 : decode cX6_keep 35 = .ok (.aload_n 0, 1) := by decide +kernel
theorem dX6_keep_36 : decode cX6_keep 36 = .ok (.getfield 36, 3) := by decide +kernel
theorem dX6_keep_39 : decode cX6_keep 39 = .ok (.iconst 0, 1) := by decide +kernel
theorem dX6_keep_40 : decode cX6_keep 40 = .ok (.bipush 15, 2) := by decide +kernel
theorem dX6_keep_42 : decode cX6_keep 42 = .ok (.invokestatic 86, 3) := by decide +kernel
theorem dX6_keep_45 : decode cX6_keep 45 = .ok (.return_, 1) := by decide +kernel
theorem dX6_restore_0 : decode cX6_restore 0 = .ok (.aload_n 0, 1) := by decide +kernel
theorem dX6_restore_1 : decode cX6_restore 1 = .ok (.getfield 30, 3) := by decide +kernel
theorem dX6_restore_4 : decode cX6_restore 4 = .ok (.iconst 0, 1) := by decide +kernel
theorem dX6_restore_5 : decode cX6_restore 5 = .ok (.aload_n 0, 1) := by decide +kernel
theorem dX6_restore_6 : decode cX6_restore 6 = .ok (.getfield 20, 3) := by decide +kernel
theorem dX6_restore_9 : decode cX6_restore 9 = .ok (.iconst 0, 1) := by decide +kernel
theorem dX6_restore_10 : decode cX6_restore 10 = .ok (.bipush 14, 2) := by decide +kernel
theorem dX6_restore_12 : decode cX6_restore 12 = .ok (.invokestatic 86, 3) := by decide +kernel
theorem dX6_restore_15 : decode cX6_restore 15 = .ok (.aload_n 0, 1) := by decide +kernel
theorem dX6_restore_16 : decode cX6_restore 16 = .ok (.getfield 33, 3) := by decide +kernel
theorem dX6_restore_19 : decode cX6_restore 19 = .ok (.iconst 0, 1) := by decide +kernel
theorem dX6_restore_20 : decode cX6_restore 20 = .ok (.aload_n 0, 1) := by decide +kernel
theorem dX6_restore_21 : decode cX6_restore 21 = .ok (.getfield 24, 3) := by decide +kernel
theorem dX6_restore_24 : decode cX6_restore 24 = .ok (.iconst 0, 1) := by decide +kernel
theorem dX6_restore_25 : decode cX6_restore 25 = .ok (.bipush 15, 2) := by decide +kernel
theorem dX6_restore_27 : decode cX6_restore 27 = .ok (.invokestatic 86, 3) := by decide +kernel
theorem dX6_restore_30 : decode cX6_restore 30 = .ok (.aload_n 0, 1) := by decide +kernel
theorem dX6_restore_31 : decode cX6_restore 31 = .ok (.getfield 36, 3) := by decide +kernel
theorem dX6_restore_34 : decode cX6_restore 34 = .ok (.iconst 0, 1) := by decide +kernel
theorem dX6_restore_35 : decode cX6_restore 35 = .ok (.aload_n 0, 1) := by decide +kernel
theorem dX6_restore_36 : decode cX6_restore 36 = .ok (.getfield 27, 3) := by decide +kernel
theorem dX6_restore_39 : decode cX6_restore 39 = .ok (.iconst 0, 1) := by decide +kernel
theorem dX6_restore_40 : decode cX6_restore 40 = .ok (.bipush 15, 2) := by decide +kernel
theorem dX6_restore_42 : decode cX6_restore 42 = .ok (.invokestatic 86, 3) := by decide +kernel
theorem dX6_restore_45 : decode cX6_restore 45 = .ok (.return_, 1) := by decide +kernel
theorem dX6_totalWithout_0 : decode cX6_totalWithout 0 = .ok (.aload_n 0, 1) := by decide +kernel
theorem dX6_totalWithout_1 : decode cX6_totalWithout 1 = .ok (.getfield 11, 3) := by decide +kernel
theorem dX6_totalWithout_4 : decode cX6_totalWithout 4 = .ok (.iload_n 1, 1) := by decide +kernel
theorem dX6_totalWithout_5 : decode cX6_totalWithout 5 = .ok (.aaload, 1) := by decide +kernel
theorem dX6_totalWithout_6 : decode cX6_totalWithout 6 = .ok (.iload_n 2, 1) := by decide +kernel
theorem dX6_totalWithout_7 : decode cX6_totalWithout 7 = .ok (.iaload, 1) := by decide +kernel
theorem dX6_totalWithout_8 : decode cX6_totalWithout 8 = .ok (.istore_n 3, 1) := by decide +kernel
theorem dX6_totalWithout_9 : decode cX6_totalWithout 9 = .ok (.aload_n 0, 1) := by decide +kernel
theorem dX6_totalWithout_10 : decode cX6_totalWithout 10 = .ok (.getfield 11, 3) := by decide +kernel
theorem dX6_totalWithout_13 : decode cX6_totalWithout 13 = .ok (.iload_n 1, 1) := by decide +kernel
theorem dX6_totalWithout_14 : decode cX6_totalWithout 14 = .ok (.aaload, 1) := by decide +kernel
theorem dX6_totalWithout_15 : decode cX6_totalWithout 15 = .ok (.iload_n 2, 1) := by decide +kernel
theorem dX6_totalWithout_16 : decode cX6_totalWithout 16 = .ok (.iconst 0, 1) := by decide +kernel
theorem dX6_totalWithout_17 : decode cX6_totalWithout 17 = .ok (.iastore, 1) := by decide +kernel
theorem dX6_totalWithout_18 : decode cX6_totalWithout 18 = .ok (.aload_n 0, 1) := by decide +kernel
theorem dX6_totalWithout_19 : decode cX6_totalWithout 19 = .ok (.getfield 27, 3) := by decide +kernel
theorem dX6_totalWithout_22 : decode cX6_totalWithout 22 = .ok (.iload_n 2, 1) := by decide +kernel
theorem dX6_totalWithout_23 : decode cX6_totalWithout 23 = .ok (.iconst (-1), 1) := by decide +kernel
theorem dX6_totalWithout_24 : decode cX6_totalWithout 24 = .ok (.iastore, 1) := by decide +kernel
theorem dX6_totalWithout_25 : decode cX6_totalWithout 25 = .ok (.aload_n 0, 1) := by decide +kernel
theorem dX6_totalWithout_26 : decode cX6_totalWithout 26 = .ok (.iload_n 1, 1) := by decide +kernel
theorem dX6_totalWithout_27 : decode cX6_totalWithout 27 = .ok (.invokevirtual 58, 3) := by decide +kernel
theorem dX6_totalWithout_30 : decode cX6_totalWithout 30 = .ok (.aload_n 0, 1) := by decide +kernel
theorem dX6_totalWithout_31 : decode cX6_totalWithout 31 = .ok (.invokevirtual 92, 3) := by decide +kernel
theorem dX6_totalWithout_34 : decode cX6_totalWithout 34 = .ok (.istore 4, 2) := by decide +kernel
theorem dX6_totalWithout_36 : decode cX6_totalWithout 36 = .ok (.aload_n 0, 1) := by decide +kernel
theorem dX6_totalWithout_37 : decode cX6_totalWithout 37 = .ok (.getfield 11, 3) := by decide +kernel
theorem dX6_totalWithout_40 : decode cX6_totalWithout 40 = .ok (.iload_n 1, 1) := by decide +kernel
theorem dX6_totalWithout_41 : decode cX6_totalWithout 41 = .ok (.aaload, 1) := by decide +kernel
theorem dX6_totalWithout_42 : decode cX6_totalWithout 42 = .ok (.iload_n 2, 1) := by decide +kernel
theorem dX6_totalWithout_43 : decode cX6_totalWithout 43 = .ok (.iload_n 3, 1) := by decide +kernel
theorem dX6_totalWithout_44 : decode cX6_totalWithout 44 = .ok (.iastore, 1) := by decide +kernel
theorem dX6_totalWithout_45 : decode cX6_totalWithout 45 = .ok (.aload_n 0, 1) := by decide +kernel
theorem dX6_totalWithout_46 : decode cX6_totalWithout 46 = .ok (.invokevirtual 96, 3) := by decide +kernel
theorem dX6_totalWithout_49 : decode cX6_totalWithout 49 = .ok (.iload 4, 2) := by decide +kernel
theorem dX6_totalWithout_51 : decode cX6_totalWithout 51 = .ok (.ireturn, 1) := by decide +kernel
theorem dX7_init_0 : decode cX7_init 0 = .ok (.aload_n 0, 1) := by decide +kernel
theorem dX7_init_1 : decode cX7_init 1 = .ok (.invokespecial 3, 3) := by decide +kernel
theorem dX7_init_4 : decode cX7_init 4 = .ok (.aload_n 0, 1) := by decide +kernel
theorem dX7_init_5 : decode cX7_init 5 = .ok (.sipush 5000, 3) := by decide +kernel
theorem dX7_init_8 : decode cX7_init 8 = .ok (.newarray .int, 2) := by decide +kernel
theorem dX7_init_10 : decode cX7_init 10 = .ok (.putfield 9, 3) := by decide +kernel
theorem dX7_init_13 : decode cX7_init 13 = .ok (.aload_n 0, 1) := by decide +kernel
theorem dX7_init_14 : decode cX7_init 14 = .ok (.bipush 80, 2) := by decide +kernel
theorem dX7_init_16 : decode cX7_init 16 = .ok (.newarray .int, 2) := by decide +kernel
theorem dX7_init_18 : decode cX7_init 18 = .ok (.putfield 15, 3) := by decide +kernel
theorem dX7_init_21 : decode cX7_init 21 = .ok (.aload_n 0, 1) := by decide +kernel
theorem dX7_init_22 : decode cX7_init 22 = .ok (.bipush 80, 2) := by decide +kernel
theorem dX7_init_24 : decode cX7_init 24 = .ok (.newarray .int, 2) := by decide +kernel
theorem dX7_init_26 : decode cX7_init 26 = .ok (.putfield 18, 3) := by decide +kernel
theorem dX7_init_29 : decode cX7_init 29 = .ok (.aload_n 0, 1) := by decide +kernel
theorem dX7_init_30 : decode cX7_init 30 = .ok (.bipush 80, 2) := by decide +kernel
theorem dX7_init_32 : decode cX7_init 32 = .ok (.newarray .int, 2) := by decide +kernel
theorem dX7_init_34 : decode cX7_init 34 = .ok (.putfield 21, 3) := by decide +kernel
theorem dX7_init_37 : decode cX7_init 37 = .ok (.aload_n 0, 1) := by decide +kernel
theorem dX7_init_38 : decode cX7_init 38 = .ok (.bipush 80, 2) := by decide +kernel
theorem dX7_init_40 : decode cX7_init 40 = .ok (.newarray .int, 2) := by decide +kernel
theorem dX7_init_42 : decode cX7_init 42 = .ok (.putfield 24, 3) := by decide +kernel
theorem dX7_init_45 : decode cX7_init 45 = .ok (.aload_n 0, 1) := by decide +kernel
theorem dX7_init_46 : decode cX7_init 46 = .ok (.iconst 0, 1) := by decide +kernel
theorem dX7_init_47 : decode cX7_init 47 = .ok (.putfield 27, 3) := by decide +kernel
theorem dX7_init_50 : decode cX7_init 50 = .ok (.aload_n 0, 1) := by decide +kernel
theorem dX7_init_51 : decode cX7_init 51 = .ok (.iconst 0, 1) := by decide +kernel
theorem dX7_init_52 : decode cX7_init 52 = .ok (.putfield 31, 3) := by decide +kernel
theorem dX7_init_55 : decode cX7_init 55 = .ok (.aload_n 0, 1) := by decide +kernel
theorem dX7_init_56 : decode cX7_init 56 = .ok (.iconst 0, 1) := by decide +kernel
theorem dX7_init_57 : decode cX7_init 57 = .ok (.putfield 34, 3) := by decide +kernel
theorem dX7_init_60 : decode cX7_init 60 = .ok (.aload_n 0, 1) := by decide +kernel
theorem dX7_init_61 : decode cX7_init 61 = .ok (.iconst 0, 1) := by decide +kernel
theorem dX7_init_62 : decode cX7_init 62 = .ok (.putfield 37, 3) := by decide +kernel
theorem dX7_init_65 : decode cX7_init 65 = .ok (.aload_n 0, 1) := by decide +kernel
theorem dX7_init_66 : decode cX7_init 66 = .ok (.iconst 0, 1) := by decide +kernel
theorem dX7_init_67 : decode cX7_init 67 = .ok (.putfield 40, 3) := by decide +kernel
theorem dX7_init_70 : decode cX7_init 70 = .ok (.aload_n 0, 1) := by decide +kernel
theorem dX7_init_71 : decode cX7_init 71 = .ok (.iconst 0, 1) := by decide +kernel
theorem dX7_init_72 : decode cX7_init 72 = .ok (.putfield 43, 3) := by decide +kernel
theorem dX7_init_75 : decode cX7_init 75 = .ok (.aload_n 0, 1) := by decide +kernel
theorem dX7_init_76 : decode cX7_init 76 = .ok (.iconst 0, 1) := by decide +kernel
theorem dX7_init_77 : decode cX7_init 77 = .ok (.putfield 46, 3) := by decide +kernel
theorem dX7_init_80 : decode cX7_init 80 = .ok (.aload_n 0, 1) := by decide +kernel
theorem dX7_init_81 : decode cX7_init 81 = .ok (.iconst (-1), 1) := by decide +kernel
theorem dX7_init_82 : decode cX7_init 82 = .ok (.putfield 49, 3) := by decide +kernel
theorem dX7_init_85 : decode cX7_init 85 = .ok (.return_, 1) := by decide +kernel
theorem dX7_gather_0 : decode cX7_gather 0 = .ok (.aload_n 0, 1) := by decide +kernel
theorem dX7_gather_1 : decode cX7_gather 1 = .ok (.aload_n 1, 1) := by decide +kernel
theorem dX7_gather_2 : decode cX7_gather 2 = .ok (.getfield 52, 3) := by decide +kernel
theorem dX7_gather_5 : decode cX7_gather 5 = .ok (.putfield 43, 3) := by decide +kernel
theorem dX7_gather_8 : decode cX7_gather 8 = .ok (.aload_n 0, 1) := by decide +kernel
theorem dX7_gather_9 : decode cX7_gather 9 = .ok (.aload_n 1, 1) := by decide +kernel
theorem dX7_gather_10 : decode cX7_gather 10 = .ok (.getfield 55, 3) := by decide +kernel
theorem dX7_gather_13 : decode cX7_gather 13 = .ok (.putfield 46, 3) := by decide +kernel
theorem dX7_gather_16 : decode cX7_gather 16 = .ok (.aload_n 0, 1) := by decide +kernel
theorem dX7_gather_17 : decode cX7_gather 17 = .ok (.aload_n 1, 1) := by decide +kernel
theorem dX7_gather_18 : decode cX7_gather 18 = .ok (.getfield 57, 3) := by decide +kernel
theorem dX7_gather_21 : decode cX7_gather 21 = .ok (.putfield 31, 3) := by decide +kernel
theorem dX7_gather_24 : decode cX7_gather 24 = .ok (.aload_n 0, 1) := by decide +kernel
theorem dX7_gather_25 : decode cX7_gather 25 = .ok (.iconst 0, 1) := by decide +kernel
theorem dX7_gather_26 : decode cX7_gather 26 = .ok (.putfield 27, 3) := by decide +kernel
theorem dX7_gather_29 : decode cX7_gather 29 = .ok (.iconst 0, 1) := by decide +kernel
theorem dX7_gather_30 : decode cX7_gather 30 = .ok (.istore 4, 2) := by decide +kernel
theorem dX7_gather_32 : decode cX7_gather 32 = .ok (.iload 4, 2) := by decide +kernel
theorem dX7_gather_34 : decode cX7_gather 34 = .ok (.aload_n 2, 1) := by decide +kernel
theorem dX7_gather_35 : decode cX7_gather 35 = .ok (.getfield 59, 3) := by decide +kernel
theorem dX7_gather_38 : decode cX7_gather 38 = .ok (.if_icmp .ge 78, 3) := by decide +kernel
theorem dX7_gather_41 : decode cX7_gather 41 = .ok (.aload_n 2, 1) := by decide +kernel
theorem dX7_gather_42 : decode cX7_gather 42 = .ok (.getfield 64, 3) := by decide +kernel
theorem dX7_gather_45 : decode cX7_gather 45 = .ok (.iload 4, 2) := by decide +kernel
theorem dX7_gather_47 : decode cX7_gather 47 = .ok (.aaload, 1) := by decide +kernel
theorem dX7_gather_48 : decode cX7_gather 48 = .ok (.astore 5, 2) := by decide +kernel
theorem dX7_gather_50 : decode cX7_gather 50 = .ok (.aload 5, 2) := by decide +kernel
theorem dX7_gather_52 : decode cX7_gather 52 = .ok (.invokevirtual 68, 3) := by decide +kernel
theorem dX7_gather_55 : decode cX7_gather 55 = .ok (.ifCond .eq 55, 3) := by decide +kernel
theorem dX7_gather_58 : decode cX7_gather 58 = .ok (.aload 5, 2) := by decide +kernel
theorem dX7_gather_60 : decode cX7_gather 60 = .ok (.getfield 72, 3) := by decide +kernel
theorem dX7_gather_63 : decode cX7_gather 63 = .ok (.aload_n 1, 1) := by decide +kernel
theorem dX7_gather_64 : decode cX7_gather 64 = .ok (.getfield 72, 3) := by decide +kernel
theorem dX7_gather_67 : decode cX7_gather 67 = .ok (.isub, 1) := by decide +kernel
theorem dX7_gather_68 : decode cX7_gather 68 = .ok (.invokestatic 75, 3) := by decide +kernel
theorem dX7_gather_71 : decode cX7_gather 71 = .ok (.iload_n 3, 1) := by decide +kernel
theorem dX7_gather_72 : decode cX7_gather 72 = .ok (.if_icmp .gt 38, 3) := by decide +kernel
theorem dX7_gather_75 : decode cX7_gather 75 = .ok (.aload_n 0, 1) := by decide +kernel
theorem dX7_gather_76 : decode cX7_gather 76 = .ok (.getfield 15, 3) := by decide +kernel
theorem dX7_gather_79 : decode cX7_gather 79 = .ok (.aload_n 0, 1) := by decide +kernel
theorem dX7_gather_80 : decode cX7_gather 80 = .ok (.getfield 27, 3) := by decide +kernel
theorem dX7_gather_83 : decode cX7_gather 83 = .ok (.iload 4, 2) := by decide +kernel
theorem dX7_gather_85 : decode cX7_gather 85 = .ok (.iastore, 1) := by decide +kernel
theorem dX7_gather_86 : decode cX7_gather 86 = .ok (.aload_n 0, 1) := by decide +kernel
theorem dX7_gather_87 : decode cX7_gather 87 = .ok (.getfield 18, 3) := by decide +kernel
theorem dX7_gather_90 : decode cX7_gather 90 = .ok (.aload_n 0, 1) := by decide +kernel
theorem dX7_gather_91 : decode cX7_gather 91 = .ok (.getfield 27, 3) := by decide +kernel
theorem dX7_gather_94 : decode cX7_gather 94 = .ok (.aload 5, 2) := by decide +kernel
theorem dX7_gather_96 : decode cX7_gather 96 = .ok (.getfield 57, 3) := by decide +kernel
theorem dX7_gather_99 : decode cX7_gather 99 = .ok (.iastore, 1) := by decide +kernel
theorem dX7_gather_100 : decode cX7_gather 100 = .ok (.aload_n 0, 1) := by decide +kernel
theorem dX7_gather_101 : decode cX7_gather 101 = .ok (.dup, 1) := by decide +kernel
theorem dX7_gather_102 : decode cX7_gather 102 = .ok (.getfield 27, 3) := by decide +kernel
theorem dX7_gather_105 : decode cX7_gather 105 = .ok (.iconst 1, 1) := by decide +kernel
theorem dX7_gather_106 : decode cX7_gather 106 = .ok (.iadd, 1) := by decide +kernel
theorem dX7_gather_107 : decode cX7_gather 107 = .ok (.putfield 27, 3) := by decide +kernel
theorem dX7_gather_110 : decode cX7_gather 110 = .ok (.iinc 4 1, 3) := by decide +kernel
theorem dX7_gather_113 : decode cX7_gather 113 = .ok (.goto (-81), 3) := by decide +kernel
theorem dX7_gather_116 : decode cX7_gather 116 = .ok (.aload_n 0, 1) := by decide +kernel
theorem dX7_gather_117 : decode cX7_gather 117 = .ok (.invokevirtual 81, 3) := by decide +kernel
theorem dX7_gather_120 : decode cX7_gather 120 = .ok (.return_, 1) := by decide +kernel
theorem dX7_boundAmounts_0 : decode cX7_boundAmounts 0 = .ok (.aload_n 0, 1) := by decide +kernel
theorem dX7_boundAmounts_1 : decode cX7_boundAmounts 1 = .ok (.getfield 27, 3) := by decide +kernel
theorem dX7_boundAmounts_4 : decode cX7_boundAmounts 4 = .ok (.iconst 1, 1) := by decide +kernel
theorem dX7_boundAmounts_5 : decode cX7_boundAmounts 5 = .ok (.isub, 1) := by decide +kernel
theorem dX7_boundAmounts_6 : decode cX7_boundAmounts 6 = .ok (.istore_n 1, 1) := by decide +kernel
theorem dX7_boundAmounts_7 : decode cX7_boundAmounts 7 = .ok (.iload_n 1, 1) := by decide +kernel
theorem dX7_boundAmounts_8 : decode cX7_boundAmounts 8 = .ok (.ifCond .lt 97, 3) := by decide +kernel
theorem dX7_boundAmounts_11 : decode cX7_boundAmounts 11 = .ok (.iload_n 1, 1) := by decide +kernel
theorem dX7_boundAmounts_12 : decode cX7_boundAmounts 12 = .ok (.aload_n 0, 1) := by decide +kernel
theorem dX7_boundAmounts_13 : decode cX7_boundAmounts 13 = .ok (.getfield 27, 3) := by decide +kernel
theorem dX7_boundAmounts_16 : decode cX7_boundAmounts 16 = .ok (.iconst 1, 1) := by decide +kernel
theorem dX7_boundAmounts_17 : decode cX7_boundAmounts 17 = .ok (.isub, 1) := by decide +kernel
theorem dX7_boundAmounts_18 : decode cX7_boundAmounts 18 = .ok (.if_icmp .ne 7, 3) := by decide +kernel
theorem dX7_boundAmounts_21 : decode cX7_boundAmounts 21 = .ok (.iconst 1, 1) := by decide +kernel
theorem dX7_boundAmounts_22 : decode cX7_boundAmounts 22 = .ok (.goto 4, 3) := by decide +kernel
theorem dX7_boundAmounts_25 : decode cX7_boundAmounts 25 = .ok (.iconst 0, 1) := by decide +kernel
theorem dX7_boundAmounts_26 : decode cX7_boundAmounts 26 = .ok (.istore_n 2, 1) := by decide +kernel
theorem dX7_boundAmounts_27 : decode cX7_boundAmounts 27 = .ok (.aload_n 0, 1) := by decide +kernel
theorem dX7_boundAmounts_28 : decode cX7_boundAmounts 28 = .ok (.getfield 21, 3) := by decide +kernel
theorem dX7_boundAmounts_31 : decode cX7_boundAmounts 31 = .ok (.iload_n 1, 1) := by decide +kernel
theorem dX7_boundAmounts_32 : decode cX7_boundAmounts 32 = .ok (.iload_n 2, 1) := by decide +kernel
theorem dX7_boundAmounts_33 : decode cX7_boundAmounts 33 = .ok (.ifCond .eq 12, 3) := by decide +kernel
theorem dX7_boundAmounts_36 : decode cX7_boundAmounts 36 = .ok (.aload_n 0, 1) := by decide +kernel
theorem dX7_boundAmounts_37 : decode cX7_boundAmounts 37 = .ok (.getfield 18, 3) := by decide +kernel
theorem dX7_boundAmounts_40 : decode cX7_boundAmounts 40 = .ok (.iload_n 1, 1) := by decide +kernel
theorem dX7_boundAmounts_41 : decode cX7_boundAmounts 41 = .ok (.iaload, 1) := by decide +kernel
theorem dX7_boundAmounts_42 : decode cX7_boundAmounts 42 = .ok (.goto 20, 3) := by decide +kernel
theorem dX7_boundAmounts_45 : decode cX7_boundAmounts 45 = .ok (.aload_n 0, 1) := by decide +kernel
theorem dX7_boundAmounts_46 : decode cX7_boundAmounts 46 = .ok (.getfield 18, 3) := by decide +kernel
theorem dX7_boundAmounts_49 : decode cX7_boundAmounts 49 = .ok (.iload_n 1, 1) := by decide +kernel
theorem dX7_boundAmounts_50 : decode cX7_boundAmounts 50 = .ok (.iaload, 1) := by decide +kernel
theorem dX7_boundAmounts_51 : decode cX7_boundAmounts 51 = .ok (.aload_n 0, 1) := by decide +kernel
theorem dX7_boundAmounts_52 : decode cX7_boundAmounts 52 = .ok (.getfield 21, 3) := by decide +kernel
theorem dX7_boundAmounts_55 : decode cX7_boundAmounts 55 = .ok (.iload_n 1, 1) := by decide +kernel
theorem dX7_boundAmounts_56 : decode cX7_boundAmounts 56 = .ok (.iconst 1, 1) := by decide +kernel
theorem dX7_boundAmounts_57 : decode cX7_boundAmounts 57 = .ok (.iadd, 1) := by decide +kernel
theorem dX7_boundAmounts_58 : decode cX7_boundAmounts 58 = .ok (.iaload, 1) := by decide +kernel
theorem dX7_boundAmounts_59 : decode cX7_boundAmounts 59 = .ok (.invokestatic 84, 3) := by decide +kernel
theorem dX7_boundAmounts_62 : decode cX7_boundAmounts 62 = .ok (.iastore, 1) := by decide +kernel
theorem dX7_boundAmounts_63 : decode cX7_boundAmounts 63 = .ok (.aload_n 0, 1) := by decide +kernel
theorem dX7_boundAmounts_64 : decode cX7_boundAmounts 64 = .ok (.getfield 24, 3) := by decide +kernel
theorem dX7_boundAmounts_67 : decode cX7_boundAmounts 67 = .ok (.iload_n 1, 1) := by decide +kernel
theorem dX7_boundAmounts_68 : decode cX7_boundAmounts 68 = .ok (.iload_n 2, 1) := by decide +kernel
theorem dX7_boundAmounts_69 : decode cX7_boundAmounts 69 = .ok (.ifCond .eq 12, 3) := by decide +kernel
theorem dX7_boundAmounts_72 : decode cX7_boundAmounts 72 = .ok (.aload_n 0, 1) := by decide +kernel
theorem dX7_boundAmounts_73 : decode cX7_boundAmounts 73 = .ok (.getfield 18, 3) := by decide +kernel
theorem dX7_boundAmounts_76 : decode cX7_boundAmounts 76 = .ok (.iload_n 1, 1) := by decide +kernel
theorem dX7_boundAmounts_77 : decode cX7_boundAmounts 77 = .ok (.iaload, 1) := by decide +kernel
theorem dX7_boundAmounts_78 : decode cX7_boundAmounts 78 = .ok (.goto 20, 3) := by decide +kernel
theorem dX7_boundAmounts_81 : decode cX7_boundAmounts 81 = .ok (.aload_n 0, 1) := by decide +kernel
theorem dX7_boundAmounts_82 : decode cX7_boundAmounts 82 = .ok (.getfield 18, 3) := by decide +kernel
theorem dX7_boundAmounts_85 : decode cX7_boundAmounts 85 = .ok (.iload_n 1, 1) := by decide +kernel
theorem dX7_boundAmounts_86 : decode cX7_boundAmounts 86 = .ok (.iaload, 1) := by decide +kernel
theorem dX7_boundAmounts_87 : decode cX7_boundAmounts 87 = .ok (.aload_n 0, 1) := by decide +kernel
theorem dX7_boundAmounts_88 : decode cX7_boundAmounts 88 = .ok (.getfield 24, 3) := by decide +kernel
theorem dX7_boundAmounts_91 : decode cX7_boundAmounts 91 = .ok (.iload_n 1, 1) := by decide +kernel
theorem dX7_boundAmounts_92 : decode cX7_boundAmounts 92 = .ok (.iconst 1, 1) := by decide +kernel
theorem dX7_boundAmounts_93 : decode cX7_boundAmounts 93 = .ok (.iadd, 1) := by decide +kernel
theorem dX7_boundAmounts_94 : decode cX7_boundAmounts 94 = .ok (.iaload, 1) := by decide +kernel
theorem dX7_boundAmounts_95 : decode cX7_boundAmounts 95 = .ok (.invokestatic 88, 3) := by decide +kernel
theorem dX7_boundAmounts_98 : decode cX7_boundAmounts 98 = .ok (.iastore, 1) := by decide +kernel
theorem dX7_boundAmounts_99 : decode cX7_boundAmounts 99 = .ok (.iinc 1 (-1), 3) := by decide +kernel
theorem dX7_boundAmounts_102 : decode cX7_boundAmounts 102 = .ok (.goto (-95), 3) := by decide +kernel
theorem dX7_boundAmounts_105 : decode cX7_boundAmounts 105 = .ok (.return_, 1) := by decide +kernel
theorem dX7_find_0 : decode cX7_find 0 = .ok (.aload_n 0, 1) := by decide +kernel
theorem dX7_find_1 : decode cX7_find 1 = .ok (.iconst 0, 1) := by decide +kernel
theorem dX7_find_2 : decode cX7_find 2 = .ok (.putfield 40, 3) := by decide +kernel
theorem dX7_find_5 : decode cX7_find 5 = .ok (.aload_n 0, 1) := by decide +kernel
theorem dX7_find_6 : decode cX7_find 6 = .ok (.iload_n 2, 1) := by decide +kernel
theorem dX7_find_7 : decode cX7_find 7 = .ok (.putfield 34, 3) := by decide +kernel
theorem dX7_find_10 : decode cX7_find 10 = .ok (.iconst 1, 1) := by decide +kernel
theorem dX7_find_11 : decode cX7_find 11 = .ok (.istore_n 3, 1) := by decide +kernel
theorem dX7_find_12 : decode cX7_find 12 = .ok (.iload_n 3, 1) := by decide +kernel
theorem dX7_find_13 : decode cX7_find 13 = .ok (.iload_n 1, 1) := by decide +kernel
theorem dX7_find_14 : decode cX7_find 14 = .ok (.if_icmp .gt 25, 3) := by decide +kernel
theorem dX7_find_17 : decode cX7_find 17 = .ok (.aload_n 0, 1) := by decide +kernel
theorem dX7_find_18 : decode cX7_find 18 = .ok (.iload_n 3, 1) := by decide +kernel
theorem dX7_find_19 : decode cX7_find 19 = .ok (.putfield 37, 3) := by decide +kernel
theorem dX7_find_22 : decode cX7_find 22 = .ok (.aload_n 0, 1) := by decide +kernel
theorem dX7_find_23 : decode cX7_find 23 = .ok (.iconst 0, 1) := by decide +kernel
theorem dX7_find_24 : decode cX7_find 24 = .ok (.iload_n 3, 1) := by decide +kernel
theorem dX7_find_25 : decode cX7_find 25 = .ok (.aload_n 0, 1) := by decide +kernel
theorem dX7_find_26 : decode cX7_find 26 = .ok (.getfield 31, 3) := by decide +kernel
theorem dX7_find_29 : decode cX7_find 29 = .ok (.iconst 0, 1) := by decide +kernel
theorem dX7_find_30 : decode cX7_find 30 = .ok (.invokevirtual 91, 3) := by decide +kernel
theorem dX7_find_33 : decode cX7_find 33 = .ok (.iinc 3 1, 3) := by decide +kernel
theorem dX7_find_36 : decode cX7_find 36 = .ok (.goto (-24), 3) := by decide +kernel
theorem dX7_find_39 : decode cX7_find 39 = .ok (.return_, 1) := by decide +kernel
theorem dX7_extend_0 : decode cX7_extend 0 = .ok (.iload_n 2, 1) := by decide +kernel
theorem dX7_extend_1 : decode cX7_extend 1 = .ok (.iconst 1, 1) := by decide +kernel
theorem dX7_extend_2 : decode cX7_extend 2 = .ok (.if_icmp .gt 12, 3) := by decide +kernel
theorem dX7_extend_5 : decode cX7_extend 5 = .ok (.aload_n 0, 1) := by decide +kernel
theorem dX7_extend_6 : decode cX7_extend 6 = .ok (.iload_n 1, 1) := by decide +kernel
theorem dX7_extend_7 : decode cX7_extend 7 = .ok (.iload_n 3, 1) := by decide +kernel
theorem dX7_extend_8 : decode cX7_extend 8 = .ok (.iload 4, 2) := by decide +kernel
theorem dX7_extend_10 : decode cX7_extend 10 = .ok (.invokevirtual 95, 3) := by decide +kernel
theorem dX7_extend_13 : decode cX7_extend 13 = .ok (.return_, 1) := by decide +kernel
theorem dX7_extend_14 : decode cX7_extend 14 = .ok (.iload_n 1, 1) := by decide +kernel
theorem dX7_extend_15 : decode cX7_extend 15 = .ok (.istore 5, 2) := by decide +kernel
theorem dX7_extend_17 : decode cX7_extend 17 = .ok (.iload 5, 2) := by decide +kernel
theorem dX7_extend_19 : decode cX7_extend 19 = .ok (.iload_n 2, 1) := by decide +kernel
theorem dX7_extend_20 : decode cX7_extend 20 = .ok (.iadd, 1) := by decide +kernel
theorem dX7_extend_21 : decode cX7_extend 21 = .ok (.aload_n 0, 1) := by decide +kernel
theorem dX7_extend_22 : decode cX7_extend 22 = .ok (.getfield 27, 3) := by decide +kernel
theorem dX7_extend_25 : decode cX7_extend 25 = .ok (.if_icmp .gt 63, 3) := by decide +kernel
theorem dX7_extend_28 : decode cX7_extend 28 = .ok (.aload_n 0, 1) := by decide +kernel
theorem dX7_extend_29 : decode cX7_extend 29 = .ok (.getfield 40, 3) := by decide +kernel
theorem dX7_extend_32 : decode cX7_extend 32 = .ok (.sipush 5000, 3) := by decide +kernel
theorem dX7_extend_35 : decode cX7_extend 35 = .ok (.if_icmp .ge 53, 3) := by decide +kernel
theorem dX7_extend_38 : decode cX7_extend 38 = .ok (.aload_n 0, 1) := by decide +kernel
theorem dX7_extend_39 : decode cX7_extend 39 = .ok (.iload 5, 2) := by decide +kernel
theorem dX7_extend_41 : decode cX7_extend 41 = .ok (.iload_n 2, 1) := by decide +kernel
theorem dX7_extend_42 : decode cX7_extend 42 = .ok (.iload_n 3, 1) := by decide +kernel
theorem dX7_extend_43 : decode cX7_extend 43 = .ok (.invokevirtual 99, 3) := by decide +kernel
theorem dX7_extend_46 : decode cX7_extend 46 = .ok (.ifCond .eq 42, 3) := by decide +kernel
theorem dX7_extend_49 : decode cX7_extend 49 = .ok (.aload_n 0, 1) := by decide +kernel
theorem dX7_extend_50 : decode cX7_extend 50 = .ok (.iload 5, 2) := by decide +kernel
theorem dX7_extend_52 : decode cX7_extend 52 = .ok (.iconst 1, 1) := by decide +kernel
theorem dX7_extend_53 : decode cX7_extend 53 = .ok (.iadd, 1) := by decide +kernel
theorem dX7_extend_54 : decode cX7_extend 54 = .ok (.iload_n 2, 1) := by decide +kernel
theorem dX7_extend_55 : decode cX7_extend 55 = .ok (.iconst 1, 1) := by decide +kernel
theorem dX7_extend_56 : decode cX7_extend 56 = .ok (.isub, 1) := by decide +kernel
theorem dX7_extend_57 : decode cX7_extend 57 = .ok (.iload_n 3, 1) := by decide +kernel
theorem dX7_extend_58 : decode cX7_extend 58 = .ok (.aload_n 0, 1) := by decide +kernel
theorem dX7_extend_59 : decode cX7_extend 59 = .ok (.getfield 18, 3) := by decide +kernel
theorem dX7_extend_62 : decode cX7_extend 62 = .ok (.iload 5, 2) := by decide +kernel
theorem dX7_extend_64 : decode cX7_extend 64 = .ok (.iaload, 1) := by decide +kernel
theorem dX7_extend_65 : decode cX7_extend 65 = .ok (.isub, 1) := by decide +kernel
theorem dX7_extend_66 : decode cX7_extend 66 = .ok (.iload 4, 2) := by decide +kernel
theorem dX7_extend_68 : decode cX7_extend 68 = .ok (.bipush 7, 2) := by decide +kernel
theorem dX7_extend_70 : decode cX7_extend 70 = .ok (.ishl, 1) := by decide +kernel
theorem dX7_extend_71 : decode cX7_extend 71 = .ok (.aload_n 0, 1) := by decide +kernel
theorem dX7_extend_72 : decode cX7_extend 72 = .ok (.getfield 15, 3) := by decide +kernel
theorem dX7_extend_75 : decode cX7_extend 75 = .ok (.iload 5, 2) := by decide +kernel
theorem dX7_extend_77 : decode cX7_extend 77 = .ok (.iaload, 1) := by decide +kernel
theorem dX7_extend_78 : decode cX7_extend 78 = .ok (.ior, 1) := by decide +kernel
theorem dX7_extend_79 : decode cX7_extend 79 = .ok (.invokevirtual 91, 3) := by decide +kernel
theorem dX7_extend_82 : decode cX7_extend 82 = .ok (.iinc 5 1, 3) := by decide +kernel
theorem dX7_extend_85 : decode cX7_extend 85 = .ok (.goto (-68), 3) := by decide +kernel
theorem dX7_extend_88 : decode cX7_extend 88 = .ok (.return_, 1) := by decide +kernel
theorem dX7_canReach_0 : decode cX7_canReach 0 = .ok (.iload_n 2, 1) := by decide +kernel
theorem dX7_canReach_1 : decode cX7_canReach 1 = .ok (.aload_n 0, 1) := by decide +kernel
theorem dX7_canReach_2 : decode cX7_canReach 2 = .ok (.getfield 21, 3) := by decide +kernel
theorem dX7_canReach_5 : decode cX7_canReach 5 = .ok (.iload_n 1, 1) := by decide +kernel
theorem dX7_canReach_6 : decode cX7_canReach 6 = .ok (.iaload, 1) := by decide +kernel
theorem dX7_canReach_7 : decode cX7_canReach 7 = .ok (.imul, 1) := by decide +kernel
theorem dX7_canReach_8 : decode cX7_canReach 8 = .ok (.aload_n 0, 1) := by decide +kernel
theorem dX7_canReach_9 : decode cX7_canReach 9 = .ok (.getfield 34, 3) := by decide +kernel
theorem dX7_canReach_12 : decode cX7_canReach 12 = .ok (.isub, 1) := by decide +kernel
theorem dX7_canReach_13 : decode cX7_canReach 13 = .ok (.iload_n 3, 1) := by decide +kernel
theorem dX7_canReach_14 : decode cX7_canReach 14 = .ok (.if_icmp .gt 24, 3) := by decide +kernel
theorem dX7_canReach_17 : decode cX7_canReach 17 = .ok (.iload_n 2, 1) := by decide +kernel
theorem dX7_canReach_18 : decode cX7_canReach 18 = .ok (.aload_n 0, 1) := by decide +kernel
theorem dX7_canReach_19 : decode cX7_canReach 19 = .ok (.getfield 24, 3) := by decide +kernel
theorem dX7_canReach_22 : decode cX7_canReach 22 = .ok (.iload_n 1, 1) := by decide +kernel
theorem dX7_canReach_23 : decode cX7_canReach 23 = .ok (.iaload, 1) := by decide +kernel
theorem dX7_canReach_24 : decode cX7_canReach 24 = .ok (.imul, 1) := by decide +kernel
theorem dX7_canReach_25 : decode cX7_canReach 25 = .ok (.aload_n 0, 1) := by decide +kernel
theorem dX7_canReach_26 : decode cX7_canReach 26 = .ok (.getfield 34, 3) := by decide +kernel
theorem dX7_canReach_29 : decode cX7_canReach 29 = .ok (.iadd, 1) := by decide +kernel
theorem dX7_canReach_30 : decode cX7_canReach 30 = .ok (.iload_n 3, 1) := by decide +kernel
theorem dX7_canReach_31 : decode cX7_canReach 31 = .ok (.if_icmp .lt 7, 3) := by decide +kernel
theorem dX7_canReach_34 : decode cX7_canReach 34 = .ok (.iconst 1, 1) := by decide +kernel
theorem dX7_canReach_35 : decode cX7_canReach 35 = .ok (.goto 4, 3) := by decide +kernel
theorem dX7_canReach_38 : decode cX7_canReach 38 = .ok (.iconst 0, 1) := by decide +kernel
theorem dX7_canReach_39 : decode cX7_canReach 39 = .ok (.ireturn, 1) := by decide +kernel
theorem dX7_finish_0 : decode cX7_finish 0 = .ok (.iload_n 1, 1) := by decide +kernel
theorem dX7_finish_1 : decode cX7_finish 1 = .ok (.istore 4, 2) := by decide +kernel
theorem dX7_finish_3 : decode cX7_finish 3 = .ok (.iload 4, 2) := by decide +kernel
theorem dX7_finish_5 : decode cX7_finish 5 = .ok (.aload_n 0, 1) := by decide +kernel
theorem dX7_finish_6 : decode cX7_finish 6 = .ok (.getfield 27, 3) := by decide +kernel
theorem dX7_finish_9 : decode cX7_finish 9 = .ok (.if_icmp .ge 77, 3) := by decide +kernel
theorem dX7_finish_12 : decode cX7_finish 12 = .ok (.aload_n 0, 1) := by decide +kernel
theorem dX7_finish_13 : decode cX7_finish 13 = .ok (.getfield 40, 3) := by decide +kernel
theorem dX7_finish_16 : decode cX7_finish 16 = .ok (.sipush 5000, 3) := by decide +kernel
theorem dX7_finish_19 : decode cX7_finish 19 = .ok (.if_icmp .ge 67, 3) := by decide +kernel
theorem dX7_finish_22 : decode cX7_finish 22 = .ok (.iload_n 2, 1) := by decide +kernel
theorem dX7_finish_23 : decode cX7_finish 23 = .ok (.aload_n 0, 1) := by decide +kernel
theorem dX7_finish_24 : decode cX7_finish 24 = .ok (.getfield 18, 3) := by decide +kernel
theorem dX7_finish_27 : decode cX7_finish 27 = .ok (.iload 4, 2) := by decide +kernel
theorem dX7_finish_29 : decode cX7_finish 29 = .ok (.iaload, 1) := by decide +kernel
theorem dX7_finish_30 : decode cX7_finish 30 = .ok (.isub, 1) := by decide +kernel
theorem dX7_finish_31 : decode cX7_finish 31 = .ok (.invokestatic 75, 3) := by decide +kernel
theorem dX7_finish_34 : decode cX7_finish 34 = .ok (.aload_n 0, 1) := by decide +kernel
theorem dX7_finish_35 : decode cX7_finish 35 = .ok (.getfield 34, 3) := by decide +kernel
theorem dX7_finish_38 : decode cX7_finish 38 = .ok (.if_icmp .gt 42, 3) := by decide +kernel
theorem dX7_finish_41 : decode cX7_finish 41 = .ok (.aload_n 0, 1) := by decide +kernel
theorem dX7_finish_42 : decode cX7_finish 42 = .ok (.getfield 9, 3) := by decide +kernel
theorem dX7_finish_45 : decode cX7_finish 45 = .ok (.aload_n 0, 1) := by decide +kernel
theorem dX7_finish_46 : decode cX7_finish 46 = .ok (.getfield 40, 3) := by decide +kernel
theorem dX7_finish_49 : decode cX7_finish 49 = .ok (.aload_n 0, 1) := by decide +kernel
theorem dX7_finish_50 : decode cX7_finish 50 = .ok (.getfield 37, 3) := by decide +kernel
theorem dX7_finish_53 : decode cX7_finish 53 = .ok (.bipush 28, 2) := by decide +kernel
theorem dX7_finish_55 : decode cX7_finish 55 = .ok (.ishl, 1) := by decide +kernel
theorem dX7_finish_56 : decode cX7_finish 56 = .ok (.iload_n 3, 1) := by decide +kernel
theorem dX7_finish_57 : decode cX7_finish 57 = .ok (.bipush 7, 2) := by decide +kernel
theorem dX7_finish_59 : decode cX7_finish 59 = .ok (.ishl, 1) := by decide +kernel
theorem dX7_finish_60 : decode cX7_finish 60 = .ok (.ior, 1) := by decide +kernel
theorem dX7_finish_61 : decode cX7_finish 61 = .ok (.aload_n 0, 1) := by decide +kernel
theorem dX7_finish_62 : decode cX7_finish 62 = .ok (.getfield 15, 3) := by decide +kernel
theorem dX7_finish_65 : decode cX7_finish 65 = .ok (.iload 4, 2) := by decide +kernel
theorem dX7_finish_67 : decode cX7_finish 67 = .ok (.iaload, 1) := by decide +kernel
theorem dX7_finish_68 : decode cX7_finish 68 = .ok (.ior, 1) := by decide +kernel
theorem dX7_finish_69 : decode cX7_finish 69 = .ok (.iastore, 1) := by decide +kernel
theorem dX7_finish_70 : decode cX7_finish 70 = .ok (.aload_n 0, 1) := by decide +kernel
theorem dX7_finish_71 : decode cX7_finish 71 = .ok (.dup, 1) := by decide +kernel
theorem dX7_finish_72 : decode cX7_finish 72 = .ok (.getfield 40, 3) := by decide +kernel
theorem dX7_finish_75 : decode cX7_finish 75 = .ok (.iconst 1, 1) := by decide +kernel
theorem dX7_finish_76 : decode cX7_finish 76 = .ok (.iadd, 1) := by decide +kernel
theorem dX7_finish_77 : decode cX7_finish 77 = .ok (.putfield 40, 3) := by decide +kernel
theorem dX7_finish_80 : decode cX7_finish 80 = .ok (.iinc 4 1, 3) := by decide +kernel
theorem dX7_finish_83 : decode cX7_finish 83 = .ok (.goto (-80), 3) := by decide +kernel
theorem dX7_finish_86 : decode cX7_finish 86 = .ok (.return_, 1) := by decide +kernel
theorem dX7_isThere_0 : decode cX7_isThere 0 = .ok (.iload_n 1, 1) := by decide +kernel
theorem dX7_isThere_1 : decode cX7_isThere 1 = .ok (.ifCond .lt 15, 3) := by decide +kernel
theorem dX7_isThere_4 : decode cX7_isThere 4 = .ok (.iload_n 1, 1) := by decide +kernel
theorem dX7_isThere_5 : decode cX7_isThere 5 = .ok (.aload_n 0, 1) := by decide +kernel
theorem dX7_isThere_6 : decode cX7_isThere 6 = .ok (.getfield 40, 3) := by decide +kernel
theorem dX7_isThere_9 : decode cX7_isThere 9 = .ok (.if_icmp .ge 7, 3) := by decide +kernel
theorem dX7_isThere_12 : decode cX7_isThere 12 = .ok (.iconst 1, 1) := by decide +kernel
theorem dX7_isThere_13 : decode cX7_isThere 13 = .ok (.goto 4, 3) := by decide +kernel
theorem dX7_isThere_16 : decode cX7_isThere 16 = .ok (.iconst 0, 1) := by decide +kernel
theorem dX7_isThere_17 : decode cX7_isThere 17 = .ok (.ireturn, 1) := by decide +kernel
theorem dX7_sizeOf_0 : decode cX7_sizeOf 0 = .ok (.aload_n 0, 1) := by decide +kernel
theorem dX7_sizeOf_1 : decode cX7_sizeOf 1 = .ok (.getfield 9, 3) := by decide +kernel
theorem dX7_sizeOf_4 : decode cX7_sizeOf 4 = .ok (.iload_n 1, 1) := by decide +kernel
theorem dX7_sizeOf_5 : decode cX7_sizeOf 5 = .ok (.iaload, 1) := by decide +kernel
theorem dX7_sizeOf_6 : decode cX7_sizeOf 6 = .ok (.bipush 28, 2) := by decide +kernel
theorem dX7_sizeOf_8 : decode cX7_sizeOf 8 = .ok (.ishr, 1) := by decide +kernel
theorem dX7_sizeOf_9 : decode cX7_sizeOf 9 = .ok (.ireturn, 1) := by decide +kernel
theorem dX7_lineIn_0 : decode cX7_lineIn 0 = .ok (.aload_n 0, 1) := by decide +kernel
theorem dX7_lineIn_1 : decode cX7_lineIn 1 = .ok (.getfield 9, 3) := by decide +kernel
theorem dX7_lineIn_4 : decode cX7_lineIn 4 = .ok (.iload_n 1, 1) := by decide +kernel
theorem dX7_lineIn_5 : decode cX7_lineIn 5 = .ok (.iaload, 1) := by decide +kernel
theorem dX7_lineIn_6 : decode cX7_lineIn 6 = .ok (.bipush 7, 2) := by decide +kernel
theorem dX7_lineIn_8 : decode cX7_lineIn 8 = .ok (.aload_n 0, 1) := by decide +kernel
theorem dX7_lineIn_9 : decode cX7_lineIn 9 = .ok (.iload_n 1, 1) := by decide +kernel
theorem dX7_lineIn_10 : decode cX7_lineIn 10 = .ok (.invokevirtual 103, 3) := by decide +kernel
theorem dX7_lineIn_13 : decode cX7_lineIn 13 = .ok (.iconst 1, 1) := by decide +kernel
theorem dX7_lineIn_14 : decode cX7_lineIn 14 = .ok (.isub, 1) := by decide +kernel
theorem dX7_lineIn_15 : decode cX7_lineIn 15 = .ok (.iload_n 2, 1) := by decide +kernel
theorem dX7_lineIn_16 : decode cX7_lineIn 16 = .ok (.isub, 1) := by decide +kernel
theorem dX7_lineIn_17 : decode cX7_lineIn 17 = .ok (.imul, 1) := by decide +kernel
theorem dX7_lineIn_18 : decode cX7_lineIn 18 = .ok (.ishr, 1) := by decide +kernel
theorem dX7_lineIn_19 : decode cX7_lineIn 19 = .ok (.bipush 127, 2) := by decide +kernel
theorem dX7_lineIn_21 : decode cX7_lineIn 21 = .ok (.iand, 1) := by decide +kernel
theorem dX7_lineIn_22 : decode cX7_lineIn 22 = .ok (.ireturn, 1) := by decide +kernel
theorem dX8_init_0 : decode cX8_init 0 = .ok (.aload_n 0, 1) := by decide +kernel
theorem dX8_init_1 : decode cX8_init 1 = .ok (.invokespecial 3, 3) := by decide +kernel
theorem dX8_init_4 : decode cX8_init 4 = .ok (.aload_n 0, 1) := by decide +kernel
theorem dX8_init_5 : decode cX8_init 5 = .ok (.sipush 512, 3) := by decide +kernel
theorem dX8_init_8 : decode cX8_init 8 = .ok (.newarray .int, 2) := by decide +kernel
theorem dX8_init_10 : decode cX8_init 10 = .ok (.putfield 11, 3) := by decide +kernel
theorem dX8_init_13 : decode cX8_init 13 = .ok (.aload_n 0, 1) := by decide +kernel
theorem dX8_init_14 : decode cX8_init 14 = .ok (.sipush 512, 3) := by decide +kernel
theorem dX8_init_17 : decode cX8_init 17 = .ok (.newarray .int, 2) := by decide +kernel
theorem dX8_init_19 : decode cX8_init 19 = .ok (.putfield 15, 3) := by decide +kernel
theorem dX8_init_22 : decode cX8_init 22 = .ok (.aload_n 0, 1) := by decide +kernel
theorem dX8_init_23 : decode cX8_init 23 = .ok (.iconst 0, 1) := by decide +kernel
theorem dX8_init_24 : decode cX8_init 24 = .ok (.putfield 18, 3) := by decide +kernel
theorem dX8_init_27 : decode cX8_init 27 = .ok (.return_, 1) := by decide +kernel
theorem dX8_start_0 : decode cX8_start 0 = .ok (.aload_n 0, 1) := by decide +kernel
theorem dX8_start_1 : decode cX8_start 1 = .ok (.getfield 11, 3) := by decide +kernel
theorem dX8_start_4 : decode cX8_start 4 = .ok (.iconst 0, 1) := by decide +kernel
theorem dX8_start_5 : decode cX8_start 5 = .ok (.iconst 0, 1) := by decide +kernel
theorem dX8_start_6 : decode cX8_start 6 = .ok (.iastore, 1) := by decide +kernel
theorem dX8_start_7 : decode cX8_start 7 = .ok (.aload_n 0, 1) := by decide +kernel
theorem dX8_start_8 : decode cX8_start 8 = .ok (.getfield 15, 3) := by decide +kernel
theorem dX8_start_11 : decode cX8_start 11 = .ok (.iconst 0, 1) := by decide +kernel
theorem dX8_start_12 : decode cX8_start 12 = .ok (.iconst 0, 1) := by decide +kernel
theorem dX8_start_13 : decode cX8_start 13 = .ok (.iastore, 1) := by decide +kernel
theorem dX8_start_14 : decode cX8_start 14 = .ok (.aload_n 0, 1) := by decide +kernel
theorem dX8_start_15 : decode cX8_start 15 = .ok (.iconst 1, 1) := by decide +kernel
theorem dX8_start_16 : decode cX8_start 16 = .ok (.putfield 18, 3) := by decide +kernel
theorem dX8_start_19 : decode cX8_start 19 = .ok (.return_, 1) := by decide +kernel
theorem dX8_copy_0 : decode cX8_copy 0 = .ok (.aload_n 1, 1) := by decide +kernel
theorem dX8_copy_1 : decode cX8_copy 1 = .ok (.getfield 11, 3) := by decide +kernel
theorem dX8_copy_4 : decode cX8_copy 4 = .ok (.iconst 0, 1) := by decide +kernel
theorem dX8_copy_5 : decode cX8_copy 5 = .ok (.aload_n 0, 1) := by decide +kernel
theorem dX8_copy_6 : decode cX8_copy 6 = .ok (.getfield 11, 3) := by decide +kernel
theorem dX8_copy_9 : decode cX8_copy 9 = .ok (.iconst 0, 1) := by decide +kernel
theorem dX8_copy_10 : decode cX8_copy 10 = .ok (.aload_n 1, 1) := by decide +kernel
theorem dX8_copy_11 : decode cX8_copy 11 = .ok (.getfield 18, 3) := by decide +kernel
theorem dX8_copy_14 : decode cX8_copy 14 = .ok (.invokestatic 22, 3) := by decide +kernel
theorem dX8_copy_17 : decode cX8_copy 17 = .ok (.aload_n 1, 1) := by decide +kernel
theorem dX8_copy_18 : decode cX8_copy 18 = .ok (.getfield 15, 3) := by decide +kernel
theorem dX8_copy_21 : decode cX8_copy 21 = .ok (.iconst 0, 1) := by decide +kernel
theorem dX8_copy_22 : decode cX8_copy 22 = .ok (.aload_n 0, 1) := by decide +kernel
theorem dX8_copy_23 : decode cX8_copy 23 = .ok (.getfield 15, 3) := by decide +kernel
theorem dX8_copy_26 : decode cX8_copy 26 = .ok (.iconst 0, 1) := by decide +kernel
theorem dX8_copy_27 : decode cX8_copy 27 = .ok (.aload_n 1, 1) := by decide +kernel
theorem dX8_copy_28 : decode cX8_copy 28 = .ok (.getfield 18, 3) := by decide +kernel
