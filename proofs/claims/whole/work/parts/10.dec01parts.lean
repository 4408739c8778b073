theorem dX0_init_0 : decode cX0_init 0 = .ok (.aload_n 0, 1) := by decide +kernel
theorem dX0_init_1 : decode cX0_init 1 = .ok (.invokespecial 3, 3) := by decide +kernel
theorem dX0_init_4 : decode cX0_init 4 = .ok (.aload_n 0, 1) := by decide +kernel
theorem dX0_init_5 : decode cX0_init 5 = .ok (.bipush 60, 2) := by decide +kernel
theorem dX0_init_7 : decode cX0_init 7 = .ok (.newarray .int, 2) := by decide +kernel
theorem dX0_init_9 : decode cX0_init 9 = .ok (.putfield 9, 3) := by decide +kernel
theorem dX0_init_12 : decode cX0_init 12 = .ok (.aload_n 0, 1) := by decide +kernel
theorem dX0_init_13 : decode cX0_init 13 = .ok (.bipush 60, 2) := by decide +kernel
theorem dX0_init_15 : decode cX0_init 15 = .ok (.newarray .int, 2) := by decide +kernel
theorem dX0_init_17 : decode cX0_init 17 = .ok (.putfield 15, 3) := by decide +kernel
theorem dX0_init_20 : decode cX0_init 20 = .ok (.aload_n 0, 1) := by decide +kernel
theorem dX0_init_21 : decode cX0_init 21 = .ok (.bipush 60, 2) := by decide +kernel
theorem dX0_init_23 : decode cX0_init 23 = .ok (.newarray .int, 2) := by decide +kernel
theorem dX0_init_25 : decode cX0_init 25 = .ok (.putfield 18, 3) := by decide +kernel
theorem dX0_init_28 : decode cX0_init 28 = .ok (.aload_n 0, 1) := by decide +kernel
theorem dX0_init_29 : decode cX0_init 29 = .ok (.iconst 0, 1) := by decide +kernel
theorem dX0_init_30 : decode cX0_init 30 = .ok (.putfield 21, 3) := by decide +kernel
theorem dX0_init_33 : decode cX0_init 33 = .ok (.aload_n 0, 1) := by decide +kernel
theorem dX0_init_34 : decode cX0_init 34 = .ok (.iconst 0, 1) := by decide +kernel
theorem dX0_init_35 : decode cX0_init 35 = .ok (.putfield 25, 3) := by decide +kernel
theorem dX0_init_38 : decode cX0_init 38 = .ok (.return_, 1) := by decide +kernel
theorem dX0_put_0 : decode cX0_put 0 = .ok (.aload_n 0, 1) := by decide +kernel
theorem dX0_put_1 : decode cX0_put 1 = .ok (.getfield 9, 3) := by decide +kernel
theorem dX0_put_4 : decode cX0_put 4 = .ok (.aload_n 0, 1) := by decide +kernel
theorem dX0_put_5 : decode cX0_put 5 = .ok (.getfield 21, 3) := by decide +kernel
theorem dX0_put_8 : decode cX0_put 8 = .ok (.iload_n 1, 1) := by decide +kernel
theorem dX0_put_9 : decode cX0_put 9 = .ok (.iastore, 1) := by decide +kernel
theorem dX0_put_10 : decode cX0_put 10 = .ok (.aload_n 0, 1) := by decide +kernel
theorem dX0_put_11 : decode cX0_put 11 = .ok (.getfield 15, 3) := by decide +kernel
theorem dX0_put_14 : decode cX0_put 14 = .ok (.aload_n 0, 1) := by decide +kernel
theorem dX0_put_15 : decode cX0_put 15 = .ok (.getfield 21, 3) := by decide +kernel
theorem dX0_put_18 : decode cX0_put 18 = .ok (.iload_n 2, 1) := by decide +kernel
theorem dX0_put_19 : decode cX0_put 19 = .ok (.iastore, 1) := by decide +kernel
theorem dX0_put_20 : decode cX0_put 20 = .ok (.aload_n 0, 1) := by decide +kernel
theorem dX0_put_21 : decode cX0_put 21 = .ok (.getfield 18, 3) := by decide +kernel
theorem dX0_put_24 : decode cX0_put 24 = .ok (.aload_n 0, 1) := by decide +kernel
theorem dX0_put_25 : decode cX0_put 25 = .ok (.getfield 21, 3) := by decide +kernel
theorem dX0_put_28 : decode cX0_put 28 = .ok (.iload_n 3, 1) := by decide +kernel
theorem dX0_put_29 : decode cX0_put 29 = .ok (.iastore, 1) := by decide +kernel
theorem dX0_put_30 : decode cX0_put 30 = .ok (.aload_n 0, 1) := by decide +kernel
theorem dX0_put_31 : decode cX0_put 31 = .ok (.aload_n 0, 1) := by decide +kernel
theorem dX0_put_32 : decode cX0_put 32 = .ok (.getfield 21, 3) := by decide +kernel
theorem dX0_put_35 : decode cX0_put 35 = .ok (.iconst 1, 1) := by decide +kernel
theorem dX0_put_36 : decode cX0_put 36 = .ok (.iadd, 1) := by decide +kernel
theorem dX0_put_37 : decode cX0_put 37 = .ok (.bipush 60, 2) := by decide +kernel
theorem dX0_put_39 : decode cX0_put 39 = .ok (.irem, 1) := by decide +kernel
theorem dX0_put_40 : decode cX0_put 40 = .ok (.putfield 21, 3) := by decide +kernel
theorem dX0_put_43 : decode cX0_put 43 = .ok (.aload_n 0, 1) := by decide +kernel
theorem dX0_put_44 : decode cX0_put 44 = .ok (.aload_n 0, 1) := by decide +kernel
theorem dX0_put_45 : decode cX0_put 45 = .ok (.getfield 25, 3) := by decide +kernel
theorem dX0_put_48 : decode cX0_put 48 = .ok (.iconst 1, 1) := by decide +kernel
theorem dX0_put_49 : decode cX0_put 49 = .ok (.iadd, 1) := by decide +kernel
theorem dX0_put_50 : decode cX0_put 50 = .ok (.bipush 60, 2) := by decide +kernel
theorem dX0_put_52 : decode cX0_put 52 = .ok (.invokestatic 28, 3) := by decide +kernel
theorem dX0_put_55 : decode cX0_put 55 = .ok (.putfield 25, 3) := by decide +kernel
theorem dX0_put_58 : decode cX0_put 58 = .ok (.return_, 1) := by decide +kernel
theorem dX0_takeLatest_0 : decode cX0_takeLatest 0 = .ok (.aload_n 0, 1) := by decide +kernel
theorem dX0_takeLatest_1 : decode cX0_takeLatest 1 = .ok (.aload_n 0, 1) := by decide +kernel
theorem dX0_takeLatest_2 : decode cX0_takeLatest 2 = .ok (.getfield 21, 3) := by decide +kernel
theorem dX0_takeLatest_5 : decode cX0_takeLatest 5 = .ok (.bipush 60, 2) := by decide +kernel
theorem dX0_takeLatest_7 : decode cX0_takeLatest 7 = .ok (.iadd, 1) := by decide +kernel
theorem dX0_takeLatest_8 : decode cX0_takeLatest 8 = .ok (.iconst 1, 1) := by decide +kernel
theorem dX0_takeLatest_9 : decode cX0_takeLatest 9 = .ok (.isub, 1) := by decide +kernel
theorem dX0_takeLatest_10 : decode cX0_takeLatest 10 = .ok (.bipush 60, 2) := by decide +kernel
theorem dX0_takeLatest_12 : decode cX0_takeLatest 12 = .ok (.irem, 1) := by decide +kernel
theorem dX0_takeLatest_13 : decode cX0_takeLatest 13 = .ok (.putfield 21, 3) := by decide +kernel
theorem dX0_takeLatest_16 : decode cX0_takeLatest 16 = .ok (.aload_n 0, 1) := by decide +kernel
theorem dX0_takeLatest_17 : decode cX0_takeLatest 17 = .ok (.dup, 1) := by decide +kernel
theorem dX0_takeLatest_18 : decode cX0_takeLatest 18 = .ok (.getfield 25, 3) := by decide +kernel
theorem dX0_takeLatest_21 : decode cX0_takeLatest 21 = .ok (.iconst 1, 1) := by decide +kernel
theorem dX0_takeLatest_22 : decode cX0_takeLatest 22 = .ok (.isub, 1) := by decide +kernel
theorem dX0_takeLatest_23 : decode cX0_takeLatest 23 = .ok (.putfield 25, 3) := by decide +kernel
theorem dX0_takeLatest_26 : decode cX0_takeLatest 26 = .ok (.aload_n 0, 1) := by decide +kernel
theorem dX0_takeLatest_27 : decode cX0_takeLatest 27 = .ok (.getfield 21, 3) := by decide +kernel
theorem dX0_takeLatest_30 : decode cX0_takeLatest 30 = .ok (.ireturn, 1) := by decide +kernel
theorem dX1_init_0 : decode cX1_init 0 = .ok (.aload_n 0, 1) := by decide +kernel
theorem dX1_init_1 : decode cX1_init 1 = .ok (.invokespecial 3, 3) := by decide +kernel
theorem dX1_init_4 : decode cX1_init 4 = .ok (.aload_n 0, 1) := by decide +kernel
theorem dX1_init_5 : decode cX1_init 5 = .ok (.bipush 80, 2) := by decide +kernel
theorem dX1_init_7 : decode cX1_init 7 = .ok (.anewarray 9, 3) := by decide +kernel
theorem dX1_init_10 : decode cX1_init 10 = .ok (.putfield 11, 3) := by decide +kernel
theorem dX1_init_13 : decode cX1_init 13 = .ok (.aload_n 0, 1) := by decide +kernel
theorem dX1_init_14 : decode cX1_init 14 = .ok (.iconst 0, 1) := by decide +kernel
theorem dX1_init_15 : decode cX1_init 15 = .ok (.putfield 17, 3) := by decide +kernel
theorem dX1_init_18 : decode cX1_init 18 = .ok (.iconst 0, 1) := by decide +kernel
theorem dX1_init_19 : decode cX1_init 19 = .ok (.istore_n 2, 1) := by decide +kernel
theorem dX1_init_20 : decode cX1_init 20 = .ok (.iload_n 2, 1) := by decide +kernel
theorem dX1_init_21 : decode cX1_init 21 = .ok (.bipush 80, 2) := by decide +kernel
theorem dX1_init_23 : decode cX1_init 23 = .ok (.if_icmp .ge 24, 3) := by decide +kernel
theorem dX1_init_26 : decode cX1_init 26 = .ok (.aload_n 0, 1) := by decide +kernel
theorem dX1_init_27 : decode cX1_init 27 = .ok (.getfield 11, 3) := by decide +kernel
theorem dX1_init_30 : decode cX1_init 30 = .ok (.iload_n 2, 1) := by decide +kernel
theorem dX1_init_31 : decode cX1_init 31 = .ok (.new 9, 3) := by decide +kernel
theorem dX1_init_34 : decode cX1_init 34 = .ok (.dup, 1) := by decide +kernel
theorem dX1_init_35 : decode cX1_init 35 = .ok (.iload_n 1, 1) := by decide +kernel
theorem dX1_init_36 : decode cX1_init 36 = .ok (.iload_n 2, 1) := by decide +kernel
theorem dX1_init_37 : decode cX1_init 37 = .ok (.invokespecial 21, 3) := by decide +kernel
theorem dX1_init_40 : decode cX1_init 40 = .ok (.aastore, 1) := by decide +kernel
theorem dX1_init_41 : decode cX1_init 41 = .ok (.iinc 2 1, 3) := by decide +kernel
theorem dX1_init_44 : decode cX1_init 44 = .ok (.goto (-24), 3) := by decide +kernel
theorem dX1_init_47 : decode cX1_init 47 = .ok (.return_, 1) := by decide +kernel
theorem dX1_breaksAged_0 : decode cX1_breaksAged 0 = .ok (.iconst 0, 1) := by decide +kernel
theorem dX1_breaksAged_1 : decode cX1_breaksAged 1 = .ok (.istore_n 3, 1) := by decide +kernel
theorem dX1_breaksAged_2 : decode cX1_breaksAged 2 = .ok (.iconst 0, 1) := by decide +kernel
theorem dX1_breaksAged_3 : decode cX1_breaksAged 3 = .ok (.istore 4, 2) := by decide +kernel
theorem dX1_breaksAged_5 : decode cX1_breaksAged 5 = .ok (.iload 4, 2) := by decide +kernel
theorem dX1_breaksAged_7 : decode cX1_breaksAged 7 = .ok (.aload_n 0, 1) := by decide +kernel
theorem dX1_breaksAged_8 : decode cX1_breaksAged 8 = .ok (.getfield 17, 3) := by decide +kernel
theorem dX1_breaksAged_11 : decode cX1_breaksAged 11 = .ok (.if_icmp .ge 41, 3) := by decide +kernel
theorem dX1_breaksAged_14 : decode cX1_breaksAged 14 = .ok (.aload_n 0, 1) := by decide +kernel
theorem dX1_breaksAged_15 : decode cX1_breaksAged 15 = .ok (.getfield 11, 3) := by decide +kernel
theorem dX1_breaksAged_18 : decode cX1_breaksAged 18 = .ok (.iload 4, 2) := by decide +kernel
theorem dX1_breaksAged_20 : decode cX1_breaksAged 20 = .ok (.aaload, 1) := by decide +kernel
theorem dX1_breaksAged_21 : decode cX1_breaksAged 21 = .ok (.invokevirtual 24, 3) := by decide +kernel
theorem dX1_breaksAged_24 : decode cX1_breaksAged 24 = .ok (.ifCond .eq 22, 3) := by decide +kernel
theorem dX1_breaksAged_27 : decode cX1_breaksAged 27 = .ok (.iload_n 2, 1) := by decide +kernel
theorem dX1_breaksAged_28 : decode cX1_breaksAged 28 = .ok (.aload_n 0, 1) := by decide +kernel
theorem dX1_breaksAged_29 : decode cX1_breaksAged 29 = .ok (.getfield 11, 3) := by decide +kernel
theorem dX1_breaksAged_32 : decode cX1_breaksAged 32 = .ok (.iload 4, 2) := by decide +kernel
theorem dX1_breaksAged_34 : decode cX1_breaksAged 34 = .ok (.aaload, 1) := by decide +kernel
theorem dX1_breaksAged_35 : decode cX1_breaksAged 35 = .ok (.getfield 28, 3) := by decide +kernel
theorem dX1_breaksAged_38 : decode cX1_breaksAged 38 = .ok (.isub, 1) := by decide +kernel
theorem dX1_breaksAged_39 : decode cX1_breaksAged 39 = .ok (.iload_n 1, 1) := by decide +kernel
theorem dX1_breaksAged_40 : decode cX1_breaksAged 40 = .ok (.if_icmp .lt 6, 3) := by decide +kernel
theorem dX1_breaksAged_43 : decode cX1_breaksAged 43 = .ok (.iinc 3 1, 3) := by decide +kernel
theorem dX1_breaksAged_46 : decode cX1_breaksAged 46 = .ok (.iinc 4 1, 3) := by decide +kernel
theorem dX1_breaksAged_49 : decode cX1_breaksAged 49 = .ok (.goto (-44), 3) := by decide +kernel
theorem dX1_breaksAged_52 : decode cX1_breaksAged 52 = .ok (.iload_n 3, 1) := by decide +kernel
theorem dX1_breaksAged_53 : decode cX1_breaksAged 53 = .ok (.ireturn, 1) := by decide +kernel
theorem dX1_breakAt_0 : decode cX1_breakAt 0 = .ok (.iconst 0, 1) := by decide +kernel
theorem dX1_breakAt_1 : decode cX1_breakAt 1 = .ok (.istore_n 2, 1) := by decide +kernel
theorem dX1_breakAt_2 : decode cX1_breakAt 2 = .ok (.iconst 0, 1) := by decide +kernel
theorem dX1_breakAt_3 : decode cX1_breakAt 3 = .ok (.istore_n 3, 1) := by decide +kernel
theorem dX1_breakAt_4 : decode cX1_breakAt 4 = .ok (.iload_n 3, 1) := by decide +kernel
theorem dX1_breakAt_5 : decode cX1_breakAt 5 = .ok (.aload_n 0, 1) := by decide +kernel
theorem dX1_breakAt_6 : decode cX1_breakAt 6 = .ok (.getfield 17, 3) := by decide +kernel
theorem dX1_breakAt_9 : decode cX1_breakAt 9 = .ok (.if_icmp .ge 31, 3) := by decide +kernel
theorem dX1_breakAt_12 : decode cX1_breakAt 12 = .ok (.aload_n 0, 1) := by decide +kernel
theorem dX1_breakAt_13 : decode cX1_breakAt 13 = .ok (.getfield 11, 3) := by decide +kernel
theorem dX1_breakAt_16 : decode cX1_breakAt 16 = .ok (.iload_n 3, 1) := by decide +kernel
theorem dX1_breakAt_17 : decode cX1_breakAt 17 = .ok (.aaload, 1) := by decide +kernel
theorem dX1_breakAt_18 : decode cX1_breakAt 18 = .ok (.invokevirtual 24, 3) := by decide +kernel
theorem dX1_breakAt_21 : decode cX1_breakAt 21 = .ok (.ifCond .eq 13, 3) := by decide +kernel
theorem dX1_breakAt_24 : decode cX1_breakAt 24 = .ok (.iload_n 2, 1) := by decide +kernel
theorem dX1_breakAt_25 : decode cX1_breakAt 25 = .ok (.iload_n 1, 1) := by decide +kernel
theorem dX1_breakAt_26 : decode cX1_breakAt 26 = .ok (.if_icmp .ne 5, 3) := by decide +kernel
theorem dX1_breakAt_29 : decode cX1_breakAt 29 = .ok (.iload_n 3, 1) := by decide +kernel
theorem dX1_breakAt_30 : decode cX1_breakAt 30 = .ok (.ireturn, 1) := by decide +kernel
theorem dX1_breakAt_31 : decode cX1_breakAt 31 = .ok (.iinc 2 1, 3) := by decide +kernel
theorem dX1_breakAt_34 : decode cX1_breakAt 34 = .ok (.iinc 3 1, 3) := by decide +kernel
theorem dX1_breakAt_37 : decode cX1_breakAt 37 = .ok (.goto (-33), 3) := by decide +kernel
theorem dX1_breakAt_40 : decode cX1_breakAt 40 = .ok (.iconst (-1), 1) := by decide +kernel
theorem dX1_breakAt_41 : decode cX1_breakAt 41 = .ok (.ireturn, 1) := by decide +kernel
theorem dX1_sumOfAll_0 : decode cX1_sumOfAll 0 = .ok (.iconst 0, 1) := by decide +kernel
theorem dX1_sumOfAll_1 : decode cX1_sumOfAll 1 = .ok (.istore_n 1, 1) := by decide +kernel
theorem dX1_sumOfAll_2 : decode cX1_sumOfAll 2 = .ok (.iconst 0, 1) := by decide +kernel
theorem dX1_sumOfAll_3 : decode cX1_sumOfAll 3 = .ok (.istore_n 2, 1) := by decide +kernel
theorem dX1_sumOfAll_4 : decode cX1_sumOfAll 4 = .ok (.iload_n 2, 1) := by decide +kernel
theorem dX1_sumOfAll_5 : decode cX1_sumOfAll 5 = .ok (.aload_n 0, 1) := by decide +kernel
theorem dX1_sumOfAll_6 : decode cX1_sumOfAll 6 = .ok (.getfield 17, 3) := by decide +kernel
theorem dX1_sumOfAll_9 : decode cX1_sumOfAll 9 = .ok (.if_icmp .ge 21, 3) := by decide +kernel
theorem dX1_sumOfAll_12 : decode cX1_sumOfAll 12 = .ok (.iload_n 1, 1) := by decide +kernel
theorem dX1_sumOfAll_13 : decode cX1_sumOfAll 13 = .ok (.aload_n 0, 1) := by decide +kernel
theorem dX1_sumOfAll_14 : decode cX1_sumOfAll 14 = .ok (.getfield 11, 3) := by decide +kernel
theorem dX1_sumOfAll_17 : decode cX1_sumOfAll 17 = .ok (.iload_n 2, 1) := by decide +kernel
theorem dX1_sumOfAll_18 : decode cX1_sumOfAll 18 = .ok (.aaload, 1) := by decide +kernel
theorem dX1_sumOfAll_19 : decode cX1_sumOfAll 19 = .ok (.getfield 31, 3) := by decide +kernel
theorem dX1_sumOfAll_22 : decode cX1_sumOfAll 22 = .ok (.iadd, 1) := by decide +kernel
theorem dX1_sumOfAll_23 : decode cX1_sumOfAll 23 = .ok (.istore_n 1, 1) := by decide +kernel
theorem dX1_sumOfAll_24 : decode cX1_sumOfAll 24 = .ok (.iinc 2 1, 3) := by decide +kernel
theorem dX1_sumOfAll_27 : decode cX1_sumOfAll 27 = .ok (.goto (-23), 3) := by decide +kernel
theorem dX1_sumOfAll_30 : decode cX1_sumOfAll 30 = .ok (.iload_n 1, 1) := by decide +kernel
theorem dX1_sumOfAll_31 : decode cX1_sumOfAll 31 = .ok (.ireturn, 1) := by decide +kernel
theorem dX1_sumOfBreaks_0 : decode cX1_sumOfBreaks 0 = .ok (.iconst 0, 1) := by decide +kernel
theorem dX1_sumOfBreaks_1 : decode cX1_sumOfBreaks 1 = .ok (.istore_n 1, 1) := by decide +kernel
theorem dX1_sumOfBreaks_2 : decode cX1_sumOfBreaks 2 = .ok (.iconst 0, 1) := by decide +kernel
theorem dX1_sumOfBreaks_3 : decode cX1_sumOfBreaks 3 = .ok (.istore_n 2, 1) := by decide +kernel
theorem dX1_sumOfBreaks_4 : decode cX1_sumOfBreaks 4 = .ok (.iload_n 2, 1) := by decide +kernel
theorem dX1_sumOfBreaks_5 : decode cX1_sumOfBreaks 5 = .ok (.aload_n 0, 1) := by decide +kernel
theorem dX1_sumOfBreaks_6 : decode cX1_sumOfBreaks 6 = .ok (.getfield 17, 3) := by decide +kernel
theorem dX1_sumOfBreaks_9 : decode cX1_sumOfBreaks 9 = .ok (.if_icmp .ge 33, 3) := by decide +kernel
theorem dX1_sumOfBreaks_12 : decode cX1_sumOfBreaks 12 = .ok (.aload_n 0, 1) := by decide +kernel
theorem dX1_sumOfBreaks_13 : decode cX1_sumOfBreaks 13 = .ok (.getfield 11, 3) := by decide +kernel
theorem dX1_sumOfBreaks_16 : decode cX1_sumOfBreaks 16 = .ok (.iload_n 2, 1) := by decide +kernel
theorem dX1_sumOfBreaks_17 : decode cX1_sumOfBreaks 17 = .ok (.aaload, 1) := by decide +kernel
theorem dX1_sumOfBreaks_18 : decode cX1_sumOfBreaks 18 = .ok (.invokevirtual 24, 3) := by decide +kernel
theorem dX1_sumOfBreaks_21 : decode cX1_sumOfBreaks 21 = .ok (.ifCond .eq 15, 3) := by decide +kernel
theorem dX1_sumOfBreaks_24 : decode cX1_sumOfBreaks 24 = .ok (.iload_n 1, 1) := by decide +kernel
theorem dX1_sumOfBreaks_25 : decode cX1_sumOfBreaks 25 = .ok (.aload_n 0, 1) := by decide +kernel
theorem dX1_sumOfBreaks_26 : decode cX1_sumOfBreaks 26 = .ok (.getfield 11, 3) := by decide +kernel
theorem dX1_sumOfBreaks_29 : decode cX1_sumOfBreaks 29 = .ok (.iload_n 2, 1) := by decide +kernel
theorem dX1_sumOfBreaks_30 : decode cX1_sumOfBreaks 30 = .ok (.aaload, 1) := by decide +kernel
theorem dX1_sumOfBreaks_31 : decode cX1_sumOfBreaks 31 = .ok (.getfield 31, 3) := by decide +kernel
theorem dX1_sumOfBreaks_34 : decode cX1_sumOfBreaks 34 = .ok (.iadd, 1) := by decide +kernel
theorem dX1_sumOfBreaks_35 : decode cX1_sumOfBreaks 35 = .ok (.istore_n 1, 1) := by decide +kernel
theorem dX1_sumOfBreaks_36 : decode cX1_sumOfBreaks 36 = .ok (.iinc 2 1, 3) := by decide +kernel
theorem dX1_sumOfBreaks_39 : decode cX1_sumOfBreaks 39 = .ok (.goto (-35), 3) := by decide +kernel
theorem dX1_sumOfBreaks_42 : decode cX1_sumOfBreaks 42 = .ok (.iload_n 1, 1) := by decide +kernel
theorem dX1_sumOfBreaks_43 : decode cX1_sumOfBreaks 43 = .ok (.ireturn, 1) := by decide +kernel
theorem dX1_clearHolders_0 : decode cX1_clearHolders 0 = .ok (.iconst 0, 1) := by decide +kernel
theorem dX1_clearHolders_1 : decode cX1_clearHolders 1 = .ok (.istore_n 1, 1) := by decide +kernel
theorem dX1_clearHolders_2 : decode cX1_clearHolders 2 = .ok (.iload_n 1, 1) := by decide +kernel
theorem dX1_clearHolders_3 : decode cX1_clearHolders 3 = .ok (.aload_n 0, 1) := by decide +kernel
theorem dX1_clearHolders_4 : decode cX1_clearHolders 4 = .ok (.getfield 17, 3) := by decide +kernel
theorem dX1_clearHolders_7 : decode cX1_clearHolders 7 = .ok (.if_icmp .ge 19, 3) := by decide +kernel
theorem dX1_clearHolders_10 : decode cX1_clearHolders 10 = .ok (.aload_n 0, 1) := by decide +kernel
theorem dX1_clearHolders_11 : decode cX1_clearHolders 11 = .ok (.getfield 11, 3) := by decide +kernel
theorem dX1_clearHolders_14 : decode cX1_clearHolders 14 = .ok (.iload_n 1, 1) := by decide +kernel
theorem dX1_clearHolders_15 : decode cX1_clearHolders 15 = .ok (.aaload, 1) := by decide +kernel
theorem dX1_clearHolders_16 : decode cX1_clearHolders 16 = .ok (.iconst 0, 1) := by decide +kernel
theorem dX1_clearHolders_17 : decode cX1_clearHolders 17 = .ok (.putfield 34, 3) := by decide +kernel
theorem dX1_clearHolders_20 : decode cX1_clearHolders 20 = .ok (.iinc 1 1, 3) := by decide +kernel
theorem dX1_clearHolders_23 : decode cX1_clearHolders 23 = .ok (.goto (-21), 3) := by decide +kernel
theorem dX1_clearHolders_26 : decode cX1_clearHolders 26 = .ok (.return_, 1) := by decide +kernel
theorem dX1_countUnheld_0 : decode cX1_countUnheld 0 = .ok (.iconst 0, 1) := by decide +kernel
theorem dX1_countUnheld_1 : decode cX1_countUnheld 1 = .ok (.istore_n 2, 1) := by decide +kernel
theorem dX1_countUnheld_2 : decode cX1_countUnheld 2 = .ok (.iconst 0, 1) := by decide +kernel
theorem dX1_countUnheld_3 : decode cX1_countUnheld 3 = .ok (.istore_n 3, 1) := by decide +kernel
theorem dX1_countUnheld_4 : decode cX1_countUnheld 4 = .ok (.iload_n 3, 1) := by decide +kernel
theorem dX1_countUnheld_5 : decode cX1_countUnheld 5 = .ok (.aload_n 0, 1) := by decide +kernel
theorem dX1_countUnheld_6 : decode cX1_countUnheld 6 = .ok (.getfield 17, 3) := by decide +kernel
theorem dX1_countUnheld_9 : decode cX1_countUnheld 9 = .ok (.if_icmp .ge 25, 3) := by decide +kernel
theorem dX1_countUnheld_12 : decode cX1_countUnheld 12 = .ok (.aload_n 0, 1) := by decide +kernel
theorem dX1_countUnheld_13 : decode cX1_countUnheld 13 = .ok (.getfield 11, 3) := by decide +kernel
theorem dX1_countUnheld_16 : decode cX1_countUnheld 16 = .ok (.iload_n 3, 1) := by decide +kernel
theorem dX1_countUnheld_17 : decode cX1_countUnheld 17 = .ok (.aaload, 1) := by decide +kernel
theorem dX1_countUnheld_18 : decode cX1_countUnheld 18 = .ok (.iload_n 1, 1) := by decide +kernel
theorem dX1_countUnheld_19 : decode cX1_countUnheld 19 = .ok (.invokevirtual 37, 3) := by decide +kernel
theorem dX1_countUnheld_22 : decode cX1_countUnheld 22 = .ok (.ifCond .eq 6, 3) := by decide +kernel
theorem dX1_countUnheld_25 : decode cX1_countUnheld 25 = .ok (.iinc 2 1, 3) := by decide +kernel
theorem dX1_countUnheld_28 : decode cX1_countUnheld 28 = .ok (.iinc 3 1, 3) := by decide +kernel
theorem dX1_countUnheld_31 : decode cX1_countUnheld 31 = .ok (.goto (-27), 3) := by decide +kernel
theorem dX1_countUnheld_34 : decode cX1_countUnheld 34 = .ok (.iload_n 2, 1) := by decide +kernel
theorem dX1_countUnheld_35 : decode cX1_countUnheld 35 = .ok (.ireturn, 1) := by decide +kernel
theorem dX1_sumUnheld_0 : decode cX1_sumUnheld 0 = .ok (.iconst 0, 1) := by decide +kernel
theorem dX1_sumUnheld_1 : decode cX1_sumUnheld 1 = .ok (.istore_n 2, 1) := by decide +kernel
theorem dX1_sumUnheld_2 : decode cX1_sumUnheld 2 = .ok (.iconst 0, 1) := by decide +kernel
theorem dX1_sumUnheld_3 : decode cX1_sumUnheld 3 = .ok (.istore_n 3, 1) := by decide +kernel
theorem dX1_sumUnheld_4 : decode cX1_sumUnheld 4 = .ok (.iload_n 3, 1) := by decide +kernel
theorem dX1_sumUnheld_5 : decode cX1_sumUnheld 5 = .ok (.aload_n 0, 1) := by decide +kernel
theorem dX1_sumUnheld_6 : decode cX1_sumUnheld 6 = .ok (.getfield 17, 3) := by decide +kernel
theorem dX1_sumUnheld_9 : decode cX1_sumUnheld 9 = .ok (.if_icmp .ge 34, 3) := by decide +kernel
theorem dX1_sumUnheld_12 : decode cX1_sumUnheld 12 = .ok (.aload_n 0, 1) := by decide +kernel
theorem dX1_sumUnheld_13 : decode cX1_sumUnheld 13 = .ok (.getfield 11, 3) := by decide +kernel
theorem dX1_sumUnheld_16 : decode cX1_sumUnheld 16 = .ok (.iload_n 3, 1) := by decide +kernel
theorem dX1_sumUnheld_17 : decode cX1_sumUnheld 17 = .ok (.aaload, 1) := by decide +kernel
theorem dX1_sumUnheld_18 : decode cX1_sumUnheld 18 = .ok (.iload_n 1, 1) := by decide +kernel
theorem dX1_sumUnheld_19 : decode cX1_sumUnheld 19 = .ok (.invokevirtual 37, 3) := by decide +kernel
theorem dX1_sumUnheld_22 : decode cX1_sumUnheld 22 = .ok (.ifCond .eq 15, 3) := by decide +kernel
theorem dX1_sumUnheld_25 : decode cX1_sumUnheld 25 = .ok (.iload_n 2, 1) := by decide +kernel
theorem dX1_sumUnheld_26 : decode cX1_sumUnheld 26 = .ok (.aload_n 0, 1) := by decide +kernel
theorem dX1_sumUnheld_27 : decode cX1_sumUnheld 27 = .ok (.getfield 11, 3) := by decide +kernel
theorem dX1_sumUnheld_30 : decode cX1_sumUnheld 30 = .ok (.iload_n 3, 1) := by decide +kernel
theorem dX1_sumUnheld_31 : decode cX1_sumUnheld 31 = .ok (.aaload, 1) := by decide +kernel
theorem dX1_sumUnheld_32 : decode cX1_sumUnheld 32 = .ok (.getfield 31, 3) := by decide +kernel
theorem dX1_sumUnheld_35 : decode cX1_sumUnheld 35 = .ok (.iadd, 1) := by decide +kernel
theorem dX1_sumUnheld_36 : decode cX1_sumUnheld 36 = .ok (.istore_n 2, 1) := by decide +kernel
theorem dX1_sumUnheld_37 : decode cX1_sumUnheld 37 = .ok (.iinc 3 1, 3) := by decide +kernel
theorem dX1_sumUnheld_40 : decode cX1_sumUnheld 40 = .ok (.goto (-36), 3) := by decide +kernel
theorem dX1_sumUnheld_43 : decode cX1_sumUnheld 43 = .ok (.iload_n 2, 1) := by decide +kernel
theorem dX1_sumUnheld_44 : decode cX1_sumUnheld 44 = .ok (.ireturn, 1) := by decide +kernel
theorem dX1_isHeldRightly_0 : decode cX1_isHeldRightly 0 = .ok (.iconst 0, 1) := by decide +kernel
theorem dX1_isHeldRightly_1 : decode cX1_isHeldRightly 1 = .ok (.istore_n 1, 1) := by decide +kernel
theorem dX1_isHeldRightly_2 : decode cX1_isHeldRightly 2 = .ok (.iload_n 1, 1) := by decide +kernel
theorem dX1_isHeldRightly_3 : decode cX1_isHeldRightly 3 = .ok (.aload_n 0, 1) := by decide +kernel
theorem dX1_isHeldRightly_4 : decode cX1_isHeldRightly 4 = .ok (.getfield 17, 3) := by decide +kernel
theorem dX1_isHeldRightly_7 : decode cX1_isHeldRightly 7 = .ok (.if_icmp .ge 40, 3) := by decide +kernel
theorem dX1_isHeldRightly_10 : decode cX1_isHeldRightly 10 = .ok (.aload_n 0, 1) := by decide +kernel
theorem dX1_isHeldRightly_11 : decode cX1_isHeldRightly 11 = .ok (.getfield 11, 3) := by decide +kernel
theorem dX1_isHeldRightly_14 : decode cX1_isHeldRightly 14 = .ok (.iload_n 1, 1) := by decide +kernel
theorem dX1_isHeldRightly_15 : decode cX1_isHeldRightly 15 = .ok (.aaload, 1) := by decide +kernel
theorem dX1_isHeldRightly_16 : decode cX1_isHeldRightly 16 = .ok (.getfield 34, 3) := by decide +kernel
theorem dX1_isHeldRightly_19 : decode cX1_isHeldRightly 19 = .ok (.aload_n 0, 1) := by decide +kernel
theorem dX1_isHeldRightly_20 : decode cX1_isHeldRightly 20 = .ok (.getfield 11, 3) := by decide +kernel
theorem dX1_isHeldRightly_23 : decode cX1_isHeldRightly 23 = .ok (.iload_n 1, 1) := by decide +kernel
theorem dX1_isHeldRightly_24 : decode cX1_isHeldRightly 24 = .ok (.aaload, 1) := by decide +kernel
theorem dX1_isHeldRightly_25 : decode cX1_isHeldRightly 25 = .ok (.invokevirtual 24, 3) := by decide +kernel
theorem dX1_isHeldRightly_28 : decode cX1_isHeldRightly 28 = .ok (.ifCond .eq 7, 3) := by decide +kernel
theorem dX1_isHeldRightly_31 : decode cX1_isHeldRightly 31 = .ok (.iconst 0, 1) := by decide +kernel
theorem dX1_isHeldRightly_32 : decode cX1_isHeldRightly 32 = .ok (.goto 4, 3) := by decide +kernel
theorem dX1_isHeldRightly_35 : decode cX1_isHeldRightly 35 = .ok (.iconst 1, 1) := by decide +kernel
theorem dX1_isHeldRightly_36 : decode cX1_isHeldRightly 36 = .ok (.if_icmp .eq 5, 3) := by decide +kernel
theorem dX1_isHeldRightly_39 : decode cX1_isHeldRightly 39 = .ok (.iconst 0, 1) := by decide +kernel
theorem dX1_isHeldRightly_40 : decode cX1_isHeldRightly 40 = .ok (.ireturn, 1) := by decide +kernel
theorem dX1_isHeldRightly_41 : decode cX1_isHeldRightly 41 = .ok (.iinc 1 1, 3) := by decide +kernel
theorem dX1_isHeldRightly_44 : decode cX1_isHeldRightly 44 = .ok (.goto (-42), 3) := by decide +kernel
theorem dX1_isHeldRightly_47 : decode cX1_isHeldRightly 47 = .ok (.iconst 1, 1) := by decide +kernel
theorem dX1_isHeldRightly_48 : decode cX1_isHeldRightly 48 = .ok (.ireturn, 1) := by decide +kernel
theorem dX2_init_0 : decode cX2_init 0 = .ok (.aload_n 0, 1) := by decide +kernel
theorem dX2_init_1 : decode cX2_init 1 = .ok (.invokespecial 3, 3) := by decide +kernel
theorem dX2_init_4 : decode cX2_init 4 = .ok (.aload_n 0, 1) := by decide +kernel
theorem dX2_init_5 : decode cX2_init 5 = .ok (.bipush 18, 2) := by decide +kernel
theorem dX2_init_7 : decode cX2_init 7 = .ok (.newarray .int, 2) := by decide +kernel
theorem dX2_init_9 : decode cX2_init 9 = .ok (.putfield 9, 3) := by decide +kernel
theorem dX2_init_12 : decode cX2_init 12 = .ok (.aload_n 0, 1) := by decide +kernel
theorem dX2_init_13 : decode cX2_init 13 = .ok (.bipush 18, 2) := by decide +kernel
theorem dX2_init_15 : decode cX2_init 15 = .ok (.newarray .int, 2) := by decide +kernel
theorem dX2_init_17 : decode cX2_init 17 = .ok (.putfield 15, 3) := by decide +kernel
theorem dX2_init_20 : decode cX2_init 20 = .ok (.aload_n 0, 1) := by decide +kernel
theorem dX2_init_21 : decode cX2_init 21 = .ok (.bipush 18, 2) := by decide +kernel
theorem dX2_init_23 : decode cX2_init 23 = .ok (.newarray .int, 2) := by decide +kernel
theorem dX2_init_25 : decode cX2_init 25 = .ok (.putfield 18, 3) := by decide +kernel
theorem dX2_init_28 : decode cX2_init 28 = .ok (.aload_n 0, 1) := by decide +kernel
theorem dX2_init_29 : decode cX2_init 29 = .ok (.new 21, 3) := by decide +kernel
theorem dX2_init_32 : decode cX2_init 32 = .ok (.dup, 1) := by decide +kernel
theorem dX2_init_33 : decode cX2_init 33 = .ok (.invokespecial 23, 3) := by decide +kernel
theorem dX2_init_36 : decode cX2_init 36 = .ok (.putfield 24, 3) := by decide +kernel
theorem dX2_init_39 : decode cX2_init 39 = .ok (.aload_n 0, 1) := by decide +kernel
theorem dX2_init_40 : decode cX2_init 40 = .ok (.new 21, 3) := by decide +kernel
theorem dX2_init_43 : decode cX2_init 43 = .ok (.dup, 1) := by decide +kernel
theorem dX2_init_44 : decode cX2_init 44 = .ok (.invokespecial 23, 3) := by decide +kernel
theorem dX2_init_47 : decode cX2_init 47 = .ok (.putfield 28, 3) := by decide +kernel
theorem dX2_init_50 : decode cX2_init 50 = .ok (.aload_n 0, 1) := by decide +kernel
theorem dX2_init_51 : decode cX2_init 51 = .ok (.new 21, 3) := by decide +kernel
theorem dX2_init_54 : decode cX2_init 54 = .ok (.dup, 1) := by decide +kernel
theorem dX2_init_55 : decode cX2_init 55 = .ok (.invokespecial 23, 3) := by decide +kernel
theorem dX2_init_58 : decode cX2_init 58 = .ok (.putfield 31, 3) := by decide +kernel
theorem dX2_init_61 : decode cX2_init 61 = .ok (.aload_n 0, 1) := by decide +kernel
theorem dX2_init_62 : decode cX2_init 62 = .ok (.iconst 0, 1) := by decide +kernel
theorem dX2_init_63 : decode cX2_init 63 = .ok (.putfield 34, 3) := by decide +kernel
theorem dX2_init_66 : decode cX2_init 66 = .ok (.aload_n 0, 1) := by decide +kernel
theorem dX2_init_67 : decode cX2_init 67 = .ok (.bipush 18, 2) := by decide +kernel
theorem dX2_init_69 : decode cX2_init 69 = .ok (.newarray .int, 2) := by decide +kernel
theorem dX2_init_71 : decode cX2_init 71 = .ok (.putfield 38, 3) := by decide +kernel
theorem dX2_init_74 : decode cX2_init 74 = .ok (.aload_n 0, 1) := by decide +kernel
theorem dX2_init_75 : decode cX2_init 75 = .ok (.bipush 18, 2) := by decide +kernel
theorem dX2_init_77 : decode cX2_init 77 = .ok (.newarray .int, 2) := by decide +kernel
theorem dX2_init_79 : decode cX2_init 79 = .ok (.putfield 41, 3) := by decide +kernel
theorem dX2_init_82 : decode cX2_init 82 = .ok (.aload_n 0, 1) := by decide +kernel
theorem dX2_init_83 : decode cX2_init 83 = .ok (.iconst 0, 1) := by decide +kernel
theorem dX2_init_84 : decode cX2_init 84 = .ok (.putfield 44, 3) := by decide +kernel
theorem dX2_init_87 : decode cX2_init 87 = .ok (.return_, 1) := by decide +kernel
theorem dX2_start_0 : decode cX2_start 0 = .ok (.aload_n 0, 1) := by decide +kernel
theorem dX2_start_1 : decode cX2_start 1 = .ok (.iconst 0, 1) := by decide +kernel
theorem dX2_start_2 : decode cX2_start 2 = .ok (.putfield 34, 3) := by decide +kernel
theorem dX2_start_5 : decode cX2_start 5 = .ok (.return_, 1) := by decide +kernel
theorem dX2_addBreaks_0 : decode cX2_addBreaks 0 = .ok (.iconst 0, 1) := by decide +kernel
theorem dX2_addBreaks_1 : decode cX2_addBreaks 1 = .ok (.istore_n 3, 1) := by decide +kernel
theorem dX2_addBreaks_2 : decode cX2_addBreaks 2 = .ok (.iload_n 3, 1) := by decide +kernel
theorem dX2_addBreaks_3 : decode cX2_addBreaks 3 = .ok (.aload_n 1, 1) := by decide +kernel
theorem dX2_addBreaks_4 : decode cX2_addBreaks 4 = .ok (.getfield 47, 3) := by decide +kernel
theorem dX2_addBreaks_7 : decode cX2_addBreaks 7 = .ok (.if_icmp .ge 46, 3) := by decide +kernel
theorem dX2_addBreaks_10 : decode cX2_addBreaks 10 = .ok (.aload_n 1, 1) := by decide +kernel
theorem dX2_addBreaks_11 : decode cX2_addBreaks 11 = .ok (.getfield 52, 3) := by decide +kernel
theorem dX2_addBreaks_14 : decode cX2_addBreaks 14 = .ok (.iload_n 3, 1) := by decide +kernel
theorem dX2_addBreaks_15 : decode cX2_addBreaks 15 = .ok (.aaload, 1) := by decide +kernel
theorem dX2_addBreaks_16 : decode cX2_addBreaks 16 = .ok (.invokevirtual 56, 3) := by decide +kernel
theorem dX2_addBreaks_19 : decode cX2_addBreaks 19 = .ok (.ifCond .eq 28, 3) := by decide +kernel
theorem dX2_addBreaks_22 : decode cX2_addBreaks 22 = .ok (.aload_n 0, 1) := by decide +kernel
theorem dX2_addBreaks_23 : decode cX2_addBreaks 23 = .ok (.aload_n 1, 1) := by decide +kernel
theorem dX2_addBreaks_24 : decode cX2_addBreaks 24 = .ok (.getfield 52, 3) := by decide +kernel
theorem dX2_addBreaks_27 : decode cX2_addBreaks 27 = .ok (.iload_n 3, 1) := by decide +kernel
theorem dX2_addBreaks_28 : decode cX2_addBreaks 28 = .ok (.aaload, 1) := by decide +kernel
theorem dX2_addBreaks_29 : decode cX2_addBreaks 29 = .ok (.getfield 62, 3) := by decide +kernel
theorem dX2_addBreaks_32 : decode cX2_addBreaks 32 = .ok (.iload_n 3, 1) := by decide +kernel
theorem dX2_addBreaks_33 : decode cX2_addBreaks 33 = .ok (.iload_n 2, 1) := by decide +kernel
theorem dX2_addBreaks_34 : decode cX2_addBreaks 34 = .ok (.aload_n 1, 1) := by decide +kernel
theorem dX2_addBreaks_35 : decode cX2_addBreaks 35 = .ok (.getfield 52, 3) := by decide +kernel
theorem dX2_addBreaks_38 : decode cX2_addBreaks 38 = .ok (.iload_n 3, 1) := by decide +kernel
theorem dX2_addBreaks_39 : decode cX2_addBreaks 39 = .ok (.aaload, 1) := by decide +kernel
theorem dX2_addBreaks_40 : decode cX2_addBreaks 40 = .ok (.getfield 65, 3) := by decide +kernel
theorem dX2_addBreaks_43 : decode cX2_addBreaks 43 = .ok (.imul, 1) := by decide +kernel
theorem dX2_addBreaks_44 : decode cX2_addBreaks 44 = .ok (.invokevirtual 67, 3) := by decide +kernel
theorem dX2_addBreaks_47 : decode cX2_addBreaks 47 = .ok (.iinc 3 1, 3) := by decide +kernel
theorem dX2_addBreaks_50 : decode cX2_addBreaks 50 = .ok (.goto (-48), 3) := by decide +kernel
theorem dX2_addBreaks_53 : decode cX2_addBreaks 53 = .ok (.return_, 1) := by decide +kernel
theorem dX2_add_0 : decode cX2_add 0 = .ok (.aload_n 0, 1) := by decide +kernel
theorem dX2_add_1 : decode cX2_add 1 = .ok (.getfield 34, 3) := by decide +kernel
theorem dX2_add_4 : decode cX2_add 4 = .ok (.bipush 18, 2) := by decide +kernel
theorem dX2_add_6 : decode cX2_add 6 = .ok (.if_icmp .ge 43, 3) := by decide +kernel
theorem dX2_add_9 : decode cX2_add 9 = .ok (.aload_n 0, 1) := by decide +kernel
theorem dX2_add_10 : decode cX2_add 10 = .ok (.getfield 9, 3) := by decide +kernel
theorem dX2_add_13 : decode cX2_add 13 = .ok (.aload_n 0, 1) := by decide +kernel
theorem dX2_add_14 : decode cX2_add 14 = .ok (.getfield 34, 3) := by decide +kernel
theorem dX2_add_17 : decode cX2_add 17 = .ok (.iload_n 1, 1) := by decide +kernel
theorem dX2_add_18 : decode cX2_add 18 = .ok (.iastore, 1) := by decide +kernel
theorem dX2_add_19 : decode cX2_add 19 = .ok (.aload_n 0, 1) := by decide +kernel
theorem dX2_add_20 : decode cX2_add 20 = .ok (.getfield 15, 3) := by decide +kernel
theorem dX2_add_23 : decode cX2_add 23 = .ok (.aload_n 0, 1) := by decide +kernel
theorem dX2_add_24 : decode cX2_add 24 = .ok (.getfield 34, 3) := by decide +kernel
theorem dX2_add_27 : decode cX2_add 27 = .ok (.iload_n 2, 1) := by decide +kernel
theorem dX2_add_28 : decode cX2_add 28 = .ok (.iastore, 1) := by decide +kernel
theorem dX2_add_29 : decode cX2_add 29 = .ok (.aload_n 0, 1) := by decide +kernel
theorem dX2_add_30 : decode cX2_add 30 = .ok (.getfield 18, 3) := by decide +kernel
theorem dX2_add_33 : decode cX2_add 33 = .ok (.aload_n 0, 1) := by decide +kernel
theorem dX2_add_34 : decode cX2_add 34 = .ok (.getfield 34, 3) := by decide +kernel
theorem dX2_add_37 : decode cX2_add 37 = .ok (.iload_n 3, 1) := by decide +kernel
theorem dX2_add_38 : decode cX2_add 38 = .ok (.iastore, 1) := by decide +kernel
theorem dX2_add_39 : decode cX2_add 39 = .ok (.aload_n 0, 1) := by decide +kernel
theorem dX2_add_40 : decode cX2_add 40 = .ok (.dup, 1) := by decide +kernel
theorem dX2_add_41 : decode cX2_add 41 = .ok (.getfield 34, 3) := by decide +kernel
theorem dX2_add_44 : decode cX2_add 44 = .ok (.iconst 1, 1) := by decide +kernel
theorem dX2_add_45 : decode cX2_add 45 = .ok (.iadd, 1) := by decide +kernel
theorem dX2_add_46 : decode cX2_add 46 = .ok (.putfield 34, 3) := by decide +kernel
theorem dX2_add_49 : decode cX2_add 49 = .ok (.return_, 1) := by decide +kernel
theorem dX2_find_0 : decode cX2_find 0 = .ok (.aload_n 0, 1) := by decide +kernel
theorem dX2_find_1 : decode cX2_find 1 = .ok (.getfield 34, 3) := by decide +kernel
theorem dX2_find_4 : decode cX2_find 4 = .ok (.iconst 2, 1) := by decide +kernel
theorem dX2_find_5 : decode cX2_find 5 = .ok (.idiv, 1) := by decide +kernel
theorem dX2_find_6 : decode cX2_find 6 = .ok (.istore_n 2, 1) := by decide +kernel
theorem dX2_find_7 : decode cX2_find 7 = .ok (.aload_n 0, 1) := by decide +kernel
theorem dX2_find_8 : decode cX2_find 8 = .ok (.getfield 24, 3) := by decide +kernel
theorem dX2_find_11 : decode cX2_find 11 = .ok (.invokevirtual 71, 3) := by decide +kernel
theorem dX2_find_14 : decode cX2_find 14 = .ok (.aload_n 0, 1) := by decide +kernel
theorem dX2_find_15 : decode cX2_find 15 = .ok (.getfield 28, 3) := by decide +kernel
theorem dX2_find_18 : decode cX2_find 18 = .ok (.invokevirtual 71, 3) := by decide +kernel
theorem dX2_find_21 : decode cX2_find 21 = .ok (.iconst 0, 1) := by decide +kernel
theorem dX2_find_22 : decode cX2_find 22 = .ok (.istore_n 3, 1) := by decide +kernel
theorem dX2_find_23 : decode cX2_find 23 = .ok (.iload_n 3, 1) := by decide +kernel
theorem dX2_find_24 : decode cX2_find 24 = .ok (.aload_n 0, 1) := by decide +kernel
theorem dX2_find_25 : decode cX2_find 25 = .ok (.getfield 34, 3) := by decide +kernel
theorem dX2_find_28 : decode cX2_find 28 = .ok (.if_icmp .ge 58, 3) := by decide +kernel
theorem dX2_find_31 : decode cX2_find 31 = .ok (.iload_n 3, 1) := by decide +kernel
theorem dX2_find_32 : decode cX2_find 32 = .ok (.iload_n 2, 1) := by decide +kernel
theorem dX2_find_33 : decode cX2_find 33 = .ok (.if_icmp .ge 10, 3) := by decide +kernel
theorem dX2_find_36 : decode cX2_find 36 = .ok (.aload_n 0, 1) := by decide +kernel
theorem dX2_find_37 : decode cX2_find 37 = .ok (.getfield 24, 3) := by decide +kernel
theorem dX2_find_40 : decode cX2_find 40 = .ok (.goto 7, 3) := by decide +kernel
theorem dX2_find_43 : decode cX2_find 43 = .ok (.aload_n 0, 1) := by decide +kernel
theorem dX2_find_44 : decode cX2_find 44 = .ok (.getfield 28, 3) := by decide +kernel
theorem dX2_find_47 : decode cX2_find 47 = .ok (.astore 4, 2) := by decide +kernel
theorem dX2_find_49 : decode cX2_find 49 = .ok (.aload_n 0, 1) := by decide +kernel
theorem dX2_find_50 : decode cX2_find 50 = .ok (.getfield 31, 3) := by decide +kernel
theorem dX2_find_53 : decode cX2_find 53 = .ok (.aload 4, 2) := by decide +kernel
theorem dX2_find_55 : decode cX2_find 55 = .ok (.invokevirtual 74, 3) := by decide +kernel
theorem dX2_find_58 : decode cX2_find 58 = .ok (.aload 4, 2) := by decide +kernel
theorem dX2_find_60 : decode cX2_find 60 = .ok (.aload_n 0, 1) := by decide +kernel
theorem dX2_find_61 : decode cX2_find 61 = .ok (.getfield 31, 3) := by decide +kernel
theorem dX2_find_64 : decode cX2_find 64 = .ok (.aload_n 0, 1) := by decide +kernel
theorem dX2_find_65 : decode cX2_find 65 = .ok (.getfield 18, 3) := by decide +kernel
theorem dX2_find_68 : decode cX2_find 68 = .ok (.iload_n 3, 1) := by decide +kernel
theorem dX2_find_69 : decode cX2_find 69 = .ok (.iaload, 1) := by decide +kernel
theorem dX2_find_70 : decode cX2_find 70 = .ok (.ldc 78, 2) := by decide +kernel
theorem dX2_find_72 : decode cX2_find 72 = .ok (.iload_n 3, 1) := by decide +kernel
theorem dX2_find_73 : decode cX2_find 73 = .ok (.invokestatic 79, 3) := by decide +kernel
theorem dX2_find_76 : decode cX2_find 76 = .ok (.isub, 1) := by decide +kernel
theorem dX2_find_77 : decode cX2_find 77 = .ok (.invokevirtual 83, 3) := by decide +kernel
theorem dX2_find_80 : decode cX2_find 80 = .ok (.iinc 3 1, 3) := by decide +kernel
theorem dX2_find_83 : decode cX2_find 83 = .ok (.goto (-60), 3) := by decide +kernel
theorem dX2_find_86 : decode cX2_find 86 = .ok (.aload_n 0, 1) := by decide +kernel
theorem dX2_find_87 : decode cX2_find 87 = .ok (.getfield 24, 3) := by decide +kernel
theorem dX2_find_90 : decode cX2_find 90 = .ok (.aload_n 0, 1) := by decide +kernel
theorem dX2_find_91 : decode cX2_find 91 = .ok (.getfield 28, 3) := by decide +kernel
theorem dX2_find_94 : decode cX2_find 94 = .ok (.iload_n 1, 1) := by decide +kernel
theorem dX2_find_95 : decode cX2_find 95 = .ok (.invokevirtual 87, 3) := by decide +kernel
theorem dX2_find_98 : decode cX2_find 98 = .ok (.istore_n 3, 1) := by decide +kernel
theorem dX2_find_99 : decode cX2_find 99 = .ok (.aload_n 0, 1) := by decide +kernel
theorem dX2_find_100 : decode cX2_find 100 = .ok (.iload_n 3, 1) := by decide +kernel
theorem dX2_find_101 : decode cX2_find 101 = .ok (.invokevirtual 91, 3) := by decide +kernel
theorem dX2_find_104 : decode cX2_find 104 = .ok (.iload_n 3, 1) := by decide +kernel
theorem dX2_find_105 : decode cX2_find 105 = .ok (.iconst (-1), 1) := by decide +kernel
theorem dX2_find_106 : decode cX2_find 106 = .ok (.if_icmp .eq 7, 3) := by decide +kernel
theorem dX2_find_109 : decode cX2_find 109 = .ok (.iconst 1, 1) := by decide +kernel
theorem dX2_find_110 : decode cX2_find 110 = .ok (.goto 4, 3) := by decide +kernel
theorem dX2_find_113 : decode cX2_find 113 = .ok (.iconst 0, 1) := by decide +kernel
theorem dX2_find_114 : decode cX2_find 114 = .ok (.ireturn, 1) := by decide +kernel
theorem dX2_bitOf_0 : decode cX2_bitOf 0 = .ok (.iconst 1, 1) := by decide +kernel
theorem dX2_bitOf_1 : decode cX2_bitOf 1 = .ok (.bipush 17, 2) := by decide +kernel
theorem dX2_bitOf_3 : decode cX2_bitOf 3 = .ok (.iload_n 0, 1) := by decide +kernel
theorem dX2_bitOf_4 : decode cX2_bitOf 4 = .ok (.isub, 1) := by decide +kernel
theorem dX2_bitOf_5 : decode cX2_bitOf 5 = .ok (.ishl, 1) := by decide +kernel
theorem dX2_bitOf_6 : decode cX2_bitOf 6 = .ok (.ireturn, 1) := by decide +kernel
theorem dX2_choose_0 : decode cX2_choose 0 = .ok (.iload_n 1, 1) := by decide +kernel
theorem dX2_choose_1 : decode cX2_choose 1 = .ok (.iconst (-1), 1) := by decide +kernel
theorem dX2_choose_2 : decode cX2_choose 2 = .ok (.if_icmp .ne 7, 3) := by decide +kernel
theorem dX2_choose_5 : decode cX2_choose 5 = .ok (.iconst 0, 1) := by decide +kernel
theorem dX2_choose_6 : decode cX2_choose 6 = .ok (.goto 8, 3) := by decide +kernel
theorem dX2_choose_9 : decode cX2_choose 9 = .ok (.iload_n 1, 1) := by decide +kernel
theorem dX2_choose_10 : decode cX2_choose 10 = .ok (.ineg, 1) := by decide +kernel
theorem dX2_choose_11 : decode cX2_choose 11 = .ok (.ldc 95, 2) := by decide +kernel
theorem dX2_choose_13 : decode cX2_choose 13 = .ok (.iand, 1) := by decide +kernel
theorem dX2_choose_14 : decode cX2_choose 14 = .ok (.istore_n 2, 1) := by decide +kernel
theorem dX2_choose_15 : decode cX2_choose 15 = .ok (.aload_n 0, 1) := by decide +kernel
theorem dX2_choose_16 : decode cX2_choose 16 = .ok (.iconst 0, 1) := by decide +kernel
theorem dX2_choose_17 : decode cX2_choose 17 = .ok (.putfield 44, 3) := by decide +kernel
theorem dX2_choose_20 : decode cX2_choose 20 = .ok (.iconst 0, 1) := by decide +kernel
theorem dX2_choose_21 : decode cX2_choose 21 = .ok (.istore_n 3, 1) := by decide +kernel
theorem dX2_choose_22 : decode cX2_choose 22 = .ok (.iload_n 3, 1) := by decide +kernel
theorem dX2_choose_23 : decode cX2_choose 23 = .ok (.aload_n 0, 1) := by decide +kernel
theorem dX2_choose_24 : decode cX2_choose 24 = .ok (.getfield 34, 3) := by decide +kernel
theorem dX2_choose_27 : decode cX2_choose 27 = .ok (.if_icmp .ge 58, 3) := by decide +kernel
theorem dX2_choose_30 : decode cX2_choose 30 = .ok (.iload_n 2, 1) := by decide +kernel
theorem dX2_choose_31 : decode cX2_choose 31 = .ok (.iload_n 3, 1) := by decide +kernel
theorem dX2_choose_32 : decode cX2_choose 32 = .ok (.invokestatic 79, 3) := by decide +kernel
theorem dX2_choose_35 : decode cX2_choose 35 = .ok (.iand, 1) := by decide +kernel
theorem dX2_choose_36 : decode cX2_choose 36 = .ok (.ifCond .eq 43, 3) := by decide +kernel
theorem dX2_choose_39 : decode cX2_choose 39 = .ok (.aload_n 0, 1) := by decide +kernel
theorem dX2_choose_40 : decode cX2_choose 40 = .ok (.getfield 38, 3) := by decide +kernel
theorem dX2_choose_43 : decode cX2_choose 43 = .ok (.aload_n 0, 1) := by decide +kernel
theorem dX2_choose_44 : decode cX2_choose 44 = .ok (.getfield 44, 3) := by decide +kernel
theorem dX2_choose_47 : decode cX2_choose 47 = .ok (.aload_n 0, 1) := by decide +kernel
theorem dX2_choose_48 : decode cX2_choose 48 = .ok (.getfield 9, 3) := by decide +kernel
theorem dX2_choose_51 : decode cX2_choose 51 = .ok (.iload_n 3, 1) := by decide +kernel
theorem dX2_choose_52 : decode cX2_choose 52 = .ok (.iaload, 1) := by decide +kernel
theorem dX2_choose_53 : decode cX2_choose 53 = .ok (.iastore, 1) := by decide +kernel
theorem dX2_choose_54 : decode cX2_choose 54 = .ok (.aload_n 0, 1) := by decide +kernel
theorem dX2_choose_55 : decode cX2_choose 55 = .ok (.getfield 41, 3) := by decide +kernel
theorem dX2_choose_58 : decode cX2_choose 58 = .ok (.aload_n 0, 1) := by decide +kernel
theorem dX2_choose_59 : decode cX2_choose 59 = .ok (.getfield 44, 3) := by decide +kernel
theorem dX2_choose_62 : decode cX2_choose 62 = .ok (.aload_n 0, 1) := by decide +kernel
theorem dX2_choose_63 : decode cX2_choose 63 = .ok (.getfield 15, 3) := by decide +kernel
theorem dX2_choose_66 : decode cX2_choose 66 = .ok (.iload_n 3, 1) := by decide +kernel
theorem dX2_choose_67 : decode cX2_choose 67 = .ok (.iaload, 1) := by decide +kernel
theorem dX2_choose_68 : decode cX2_choose 68 = .ok (.iastore, 1) := by decide +kernel
theorem dX2_choose_69 : decode cX2_choose 69 = .ok (.aload_n 0, 1) := by decide +kernel
theorem dX2_choose_70 : decode cX2_choose 70 = .ok (.dup, 1) := by decide +kernel
theorem dX2_choose_71 : decode cX2_choose 71 = .ok (.getfield 44, 3) := by decide +kernel
theorem dX2_choose_74 : decode cX2_choose 74 = .ok (.iconst 1, 1) := by decide +kernel
theorem dX2_choose_75 : decode cX2_choose 75 = .ok (.iadd, 1) := by decide +kernel
theorem dX2_choose_76 : decode cX2_choose 76 = .ok (.putfield 44, 3) := by decide +kernel
theorem dX2_choose_79 : decode cX2_choose 79 = .ok (.iinc 3 1, 3) := by decide +kernel
theorem dX2_choose_82 : decode cX2_choose 82 = .ok (.goto (-60), 3) := by decide +kernel
theorem dX2_choose_85 : decode cX2_choose 85 = .ok (.return_, 1) := by decide +kernel
theorem dX3_init_0 : decode cX3_init 0 = .ok (.aload_n 0, 1) := by decide +kernel
theorem dX3_init_1 : decode cX3_init 1 = .ok (.invokespecial 3, 3) := by decide +kernel
theorem dX3_init_4 : decode cX3_init 4 = .ok (.aload_n 0, 1) := by decide +kernel
theorem dX3_init_5 : decode cX3_init 5 = .ok (.bipush 8, 2) := by decide +kernel
theorem dX3_init_7 : decode cX3_init 7 = .ok (.anewarray 9, 3) := by decide +kernel
theorem dX3_init_10 : decode cX3_init 10 = .ok (.putfield 11, 3) := by decide +kernel
theorem dX3_init_13 : decode cX3_init 13 = .ok (.return_, 1) := by decide +kernel
theorem dX3_open_0 : decode cX3_open 0 = .ok (.aload_n 0, 1) := by decide +kernel
theorem dX3_open_1 : decode cX3_open 1 = .ok (.iconst 0, 1) := by decide +kernel
theorem dX3_open_2 : decode cX3_open 2 = .ok (.putfield 17, 3) := by decide +kernel
theorem dX3_open_5 : decode cX3_open 5 = .ok (.aload_n 0, 1) := by decide +kernel
theorem dX3_open_6 : decode cX3_open 6 = .ok (.iload_n 1, 1) := by decide +kernel
theorem dX3_open_7 : decode cX3_open 7 = .ok (.putfield 21, 3) := by decide +kernel
theorem dX3_open_10 : decode cX3_open 10 = .ok (.aload_n 0, 1) := by decide +kernel
theorem dX3_open_11 : decode cX3_open 11 = .ok (.iload_n 2, 1) := by decide +kernel
theorem dX3_open_12 : decode cX3_open 12 = .ok (.putfield 24, 3) := by decide +kernel
theorem dX3_open_15 : decode cX3_open 15 = .ok (.aload_n 0, 1) := by decide +kernel
theorem dX3_open_16 : decode cX3_open 16 = .ok (.iconst (-1), 1) := by decide +kernel
theorem dX3_open_17 : decode cX3_open 17 = .ok (.putfield 27, 3) := by decide +kernel
theorem dX3_open_20 : decode cX3_open 20 = .ok (.aload_n 0, 1) := by decide +kernel
theorem dX3_open_21 : decode cX3_open 21 = .ok (.iconst 0, 1) := by decide +kernel
theorem dX3_open_22 : decode cX3_open 22 = .ok (.putfield 30, 3) := by decide +kernel
theorem dX3_open_25 : decode cX3_open 25 = .ok (.return_, 1) := by decide +kernel
theorem dX3_add_0 : decode cX3_add 0 = .ok (.aload_n 0, 1) := by decide +kernel
theorem dX3_add_1 : decode cX3_add 1 = .ok (.getfield 17, 3) := by decide +kernel
theorem dX3_add_4 : decode cX3_add 4 = .ok (.bipush 8, 2) := by decide +kernel
theorem dX3_add_6 : decode cX3_add 6 = .ok (.if_icmp .ge 23, 3) := by decide +kernel
theorem dX3_add_9 : decode cX3_add 9 = .ok (.aload_n 0, 1) := by decide +kernel
theorem dX3_add_10 : decode cX3_add 10 = .ok (.getfield 11, 3) := by decide +kernel
theorem dX3_add_13 : decode cX3_add 13 = .ok (.aload_n 0, 1) := by decide +kernel
theorem dX3_add_14 : decode cX3_add 14 = .ok (.getfield 17, 3) := by decide +kernel
theorem dX3_add_17 : decode cX3_add 17 = .ok (.aload_n 1, 1) := by decide +kernel
theorem dX3_add_18 : decode cX3_add 18 = .ok (.aastore, 1) := by decide +kernel
theorem dX3_add_19 : decode cX3_add 19 = .ok (.aload_n 0, 1) := by decide +kernel
theorem dX3_add_20 : decode cX3_add 20 = .ok (.dup, 1) := by decide +kernel
theorem dX3_add_21 : decode cX3_add 21 = .ok (.getfield 17, 3) := by decide +kernel
theorem dX3_add_24 : decode cX3_add 24 = .ok (.iconst 1, 1) := by decide +kernel
theorem dX3_add_25 : decode cX3_add 25 = .ok (.iadd, 1) := by decide +kernel
theorem dX3_add_26 : decode cX3_add 26 = .ok (.putfield 17, 3) := by decide +kernel
theorem dX3_add_29 : decode cX3_add 29 = .ok (.return_, 1) := by decide +kernel
theorem dX3_dropLatest_0 : decode cX3_dropLatest 0 = .ok (.aload_n 0, 1) := by decide +kernel
theorem dX3_dropLatest_1 : decode cX3_dropLatest 1 = .ok (.getfield 17, 3) := by decide +kernel
theorem dX3_dropLatest_4 : decode cX3_dropLatest 4 = .ok (.ifCond .le 26, 3) := by decide +kernel
theorem dX3_dropLatest_7 : decode cX3_dropLatest 7 = .ok (.aload_n 0, 1) := by decide +kernel
theorem dX3_dropLatest_8 : decode cX3_dropLatest 8 = .ok (.dup, 1) := by decide +kernel
theorem dX3_dropLatest_9 : decode cX3_dropLatest 9 = .ok (.getfield 17, 3) := by decide +kernel
theorem dX3_dropLatest_12 : decode cX3_dropLatest 12 = .ok (.iconst 1, 1) := by decide +kernel
theorem dX3_dropLatest_13 : decode cX3_dropLatest 13 = .ok (.isub, 1) := by decide +kernel
theorem dX3_dropLatest_14 : decode cX3_dropLatest 14 = .ok (.putfield 17, 3) := by decide +kernel
theorem dX3_dropLatest_17 : decode cX3_dropLatest 17 = .ok (.aload_n 0, 1) := by decide +kernel
theorem dX3_dropLatest_18 : decode cX3_dropLatest 18 = .ok (.getfield 11, 3) := by decide +kernel
theorem dX3_dropLatest_21 : decode cX3_dropLatest 21 = .ok (.aload_n 0, 1) := by decide +kernel
theorem dX3_dropLatest_22 : decode cX3_dropLatest 22 = .ok (.getfield 17, 3) := by decide +kernel
theorem dX3_dropLatest_25 : decode cX3_dropLatest 25 = .ok (.aaload, 1) := by decide +kernel
theorem dX3_dropLatest_26 : decode cX3_dropLatest 26 = .ok (.iconst (-1), 1) := by decide +kernel
theorem dX3_dropLatest_27 : decode cX3_dropLatest 27 = .ok (.putfield 33, 3) := by decide +kernel
theorem dX3_dropLatest_30 : decode cX3_dropLatest 30 = .ok (.return_, 1) := by decide +kernel
theorem dX3_claimLines_0 : decode cX3_claimLines 0 = .ok (.iconst 0, 1) := by decide +kernel
theorem dX3_claimLines_1 : decode cX3_claimLines 1 = .ok (.istore_n 2, 1) := by decide +kernel
theorem dX3_claimLines_2 : decode cX3_claimLines 2 = .ok (.iload_n 2, 1) := by decide +kernel
theorem dX3_claimLines_3 : decode cX3_claimLines 3 = .ok (.aload_n 0, 1) := by decide +kernel
theorem dX3_claimLines_4 : decode cX3_claimLines 4 = .ok (.getfield 17, 3) := by decide +kernel
theorem dX3_claimLines_7 : decode cX3_claimLines 7 = .ok (.if_icmp .ge 19, 3) := by decide +kernel
theorem dX3_claimLines_10 : decode cX3_claimLines 10 = .ok (.aload_n 0, 1) := by decide +kernel
theorem dX3_claimLines_11 : decode cX3_claimLines 11 = .ok (.getfield 11, 3) := by decide +kernel
theorem dX3_claimLines_14 : decode cX3_claimLines 14 = .ok (.iload_n 2, 1) := by decide +kernel
theorem dX3_claimLines_15 : decode cX3_claimLines 15 = .ok (.aaload, 1) := by decide +kernel
theorem dX3_claimLines_16 : decode cX3_claimLines 16 = .ok (.iload_n 1, 1) := by decide +kernel
theorem dX3_claimLines_17 : decode cX3_claimLines 17 = .ok (.putfield 33, 3) := by decide +kernel
theorem dX3_claimLines_20 : decode cX3_claimLines 20 = .ok (.iinc 2 1, 3) := by decide +kernel
theorem dX3_claimLines_23 : decode cX3_claimLines 23 = .ok (.goto (-21), 3) := by decide +kernel
theorem dX3_claimLines_26 : decode cX3_claimLines 26 = .ok (.return_, 1) := by decide +kernel
theorem dX3_holdLines_0 : decode cX3_holdLines 0 = .ok (.iconst 0, 1) := by decide +kernel
theorem dX3_holdLines_1 : decode cX3_holdLines 1 = .ok (.istore_n 1, 1) := by decide +kernel
theorem dX3_holdLines_2 : decode cX3_holdLines 2 = .ok (.iload_n 1, 1) := by decide +kernel
theorem dX3_holdLines_3 : decode cX3_holdLines 3 = .ok (.aload_n 0, 1) := by decide +kernel
theorem dX3_holdLines_4 : decode cX3_holdLines 4 = .ok (.getfield 17, 3) := by decide +kernel
theorem dX3_holdLines_7 : decode cX3_holdLines 7 = .ok (.if_icmp .ge 24, 3) := by decide +kernel
theorem dX3_holdLines_10 : decode cX3_holdLines 10 = .ok (.aload_n 0, 1) := by decide +kernel
theorem dX3_holdLines_11 : decode cX3_holdLines 11 = .ok (.getfield 11, 3) := by decide +kernel
theorem dX3_holdLines_14 : decode cX3_holdLines 14 = .ok (.iload_n 1, 1) := by decide +kernel
theorem dX3_holdLines_15 : decode cX3_holdLines 15 = .ok (.aaload, 1) := by decide +kernel
theorem dX3_holdLines_16 : decode cX3_holdLines 16 = .ok (.dup, 1) := by decide +kernel
theorem dX3_holdLines_17 : decode cX3_holdLines 17 = .ok (.getfield 36, 3) := by decide +kernel
theorem dX3_holdLines_20 : decode cX3_holdLines 20 = .ok (.iconst 1, 1) := by decide +kernel
theorem dX3_holdLines_21 : decode cX3_holdLines 21 = .ok (.iadd, 1) := by decide +kernel
theorem dX3_holdLines_22 : decode cX3_holdLines 22 = .ok (.putfield 36, 3) := by decide +kernel
theorem dX3_holdLines_25 : decode cX3_holdLines 25 = .ok (.iinc 1 1, 3) := by decide +kernel
theorem dX3_holdLines_28 : decode cX3_holdLines 28 = .ok (.goto (-26), 3) := by decide +kernel
theorem dX3_holdLines_31 : decode cX3_holdLines 31 = .ok (.return_, 1) := by decide +kernel
theorem dX3_isThere_0 : decode cX3_isThere 0 = .ok (.aload_n 0, 1) := by decide +kernel
theorem dX3_isThere_1 : decode cX3_isThere 1 = .ok (.getfield 27, 3) := by decide +kernel
theorem dX3_isThere_4 : decode cX3_isThere 4 = .ok (.iconst (-1), 1) := by decide +kernel
theorem dX3_isThere_5 : decode cX3_isThere 5 = .ok (.if_icmp .ne 7, 3) := by decide +kernel
theorem dX3_isThere_8 : decode cX3_isThere 8 = .ok (.iconst 1, 1) := by decide +kernel
theorem dX3_isThere_9 : decode cX3_isThere 9 = .ok (.goto 4, 3) := by decide +kernel
theorem dX3_isThere_12 : decode cX3_isThere 12 = .ok (.iconst 0, 1) := by decide +kernel
theorem dX3_isThere_13 : decode cX3_isThere 13 = .ok (.ireturn, 1) := by decide +kernel
theorem dX3_isStandingOn_0 : decode cX3_isStandingOn 0 = .ok (.aload_n 0, 1) := by decide +kernel
theorem dX3_isStandingOn_1 : decode cX3_isStandingOn 1 = .ok (.getfield 24, 3) := by decide +kernel
theorem dX3_isStandingOn_4 : decode cX3_isStandingOn 4 = .ok (.iload_n 1, 1) := by decide +kernel
theorem dX3_isStandingOn_5 : decode cX3_isStandingOn 5 = .ok (.if_icmp .gt 23, 3) := by decide +kernel
theorem dX3_isStandingOn_8 : decode cX3_isStandingOn 8 = .ok (.aload_n 0, 1) := by decide +kernel
theorem dX3_isStandingOn_9 : decode cX3_isStandingOn 9 = .ok (.getfield 27, 3) := by decide +kernel
theorem dX3_isStandingOn_12 : decode cX3_isStandingOn 12 = .ok (.iconst (-1), 1) := by decide +kernel
theorem dX3_isStandingOn_13 : decode cX3_isStandingOn 13 = .ok (.if_icmp .eq 11, 3) := by decide +kernel
theorem dX3_isStandingOn_16 : decode cX3_isStandingOn 16 = .ok (.aload_n 0, 1) := by decide +kernel
theorem dX3_isStandingOn_17 : decode cX3_isStandingOn 17 = .ok (.getfield 27, 3) := by decide +kernel
theorem dX3_isStandingOn_20 : decode cX3_isStandingOn 20 = .ok (.iload_n 1, 1) := by decide +kernel
theorem dX3_isStandingOn_21 : decode cX3_isStandingOn 21 = .ok (.if_icmp .le 7, 3) := by decide +kernel
theorem dX3_isStandingOn_24 : decode cX3_isStandingOn 24 = .ok (.iconst 1, 1) := by decide +kernel
theorem dX3_isStandingOn_25 : decode cX3_isStandingOn 25 = .ok (.goto 4, 3) := by decide +kernel
theorem dX3_isStandingOn_28 : decode cX3_isStandingOn 28 = .ok (.iconst 0, 1) := by decide +kernel
theorem dX3_isStandingOn_29 : decode cX3_isStandingOn 29 = .ok (.ireturn, 1) := by decide +kernel
theorem dX3_isUneven_0 : decode cX3_isUneven 0 = .ok (.aload_n 0, 1) := by decide +kernel
theorem dX3_isUneven_1 : decode cX3_isUneven 1 = .ok (.invokevirtual 39, 3) := by decide +kernel
theorem dX3_isUneven_4 : decode cX3_isUneven 4 = .ok (.ifCond .eq 14, 3) := by decide +kernel
theorem dX3_isUneven_7 : decode cX3_isUneven 7 = .ok (.aload_n 0, 1) := by decide +kernel
theorem dX3_isUneven_8 : decode cX3_isUneven 8 = .ok (.invokevirtual 43, 3) := by decide +kernel
theorem dX3_isUneven_11 : decode cX3_isUneven 11 = .ok (.ifCond .eq 7, 3) := by decide +kernel
theorem dX3_isUneven_14 : decode cX3_isUneven 14 = .ok (.iconst 1, 1) := by decide +kernel
theorem dX3_isUneven_15 : decode cX3_isUneven 15 = .ok (.goto 4, 3) := by decide +kernel
theorem dX3_isUneven_18 : decode cX3_isUneven 18 = .ok (.iconst 0, 1) := by decide +kernel
theorem dX3_isUneven_19 : decode cX3_isUneven 19 = .ok (.ireturn, 1) := by decide +kernel
theorem dX3_difference_0 : decode cX3_difference 0 = .ok (.iconst 0, 1) := by decide +kernel
theorem dX3_difference_1 : decode cX3_difference 1 = .ok (.istore_n 1, 1) := by decide +kernel
theorem dX3_difference_2 : decode cX3_difference 2 = .ok (.iconst 0, 1) := by decide +kernel
theorem dX3_difference_3 : decode cX3_difference 3 = .ok (.istore_n 2, 1) := by decide +kernel
theorem dX3_difference_4 : decode cX3_difference 4 = .ok (.iload_n 2, 1) := by decide +kernel
theorem dX3_difference_5 : decode cX3_difference 5 = .ok (.aload_n 0, 1) := by decide +kernel
theorem dX3_difference_6 : decode cX3_difference 6 = .ok (.getfield 17, 3) := by decide +kernel
theorem dX3_difference_9 : decode cX3_difference 9 = .ok (.if_icmp .ge 46, 3) := by decide +kernel
theorem dX3_difference_12 : decode cX3_difference 12 = .ok (.iload_n 1, 1) := by decide +kernel
theorem dX3_difference_13 : decode cX3_difference 13 = .ok (.aload_n 0, 1) := by decide +kernel
theorem dX3_difference_14 : decode cX3_difference 14 = .ok (.getfield 11, 3) := by decide +kernel
theorem dX3_difference_17 : decode cX3_difference 17 = .ok (.iload_n 2, 1) := by decide +kernel
theorem dX3_difference_18 : decode cX3_difference 18 = .ok (.aaload, 1) := by decide +kernel
theorem dX3_difference_19 : decode cX3_difference 19 = .ok (.getfield 47, 3) := by decide +kernel
theorem dX3_difference_22 : decode cX3_difference 22 = .ok (.ifCond .ne 15, 3) := by decide +kernel
theorem dX3_difference_25 : decode cX3_difference 25 = .ok (.aload_n 0, 1) := by decide +kernel
theorem dX3_difference_26 : decode cX3_difference 26 = .ok (.getfield 11, 3) := by decide +kernel
theorem dX3_difference_29 : decode cX3_difference 29 = .ok (.iload_n 2, 1) := by decide +kernel
theorem dX3_difference_30 : decode cX3_difference 30 = .ok (.aaload, 1) := by decide +kernel
theorem dX3_difference_31 : decode cX3_difference 31 = .ok (.getfield 50, 3) := by decide +kernel
theorem dX3_difference_34 : decode cX3_difference 34 = .ok (.goto 13, 3) := by decide +kernel
theorem dX3_difference_37 : decode cX3_difference 37 = .ok (.aload_n 0, 1) := by decide +kernel
theorem dX3_difference_38 : decode cX3_difference 38 = .ok (.getfield 11, 3) := by decide +kernel
theorem dX3_difference_41 : decode cX3_difference 41 = .ok (.iload_n 2, 1) := by decide +kernel
theorem dX3_difference_42 : decode cX3_difference 42 = .ok (.aaload, 1) := by decide +kernel
theorem dX3_difference_43 : decode cX3_difference 43 = .ok (.getfield 50, 3) := by decide +kernel
theorem dX3_difference_46 : decode cX3_difference 46 = .ok (.ineg, 1) := by decide +kernel
theorem dX3_difference_47 : decode cX3_difference 47 = .ok (.iadd, 1) := by decide +kernel
theorem dX3_difference_48 : decode cX3_difference 48 = .ok (.istore_n 1, 1) := by decide +kernel
theorem dX3_difference_49 : decode cX3_difference 49 = .ok (.iinc 2 1, 3) := by decide +kernel
theorem dX3_difference_52 : decode cX3_difference 52 = .ok (.goto (-48), 3) := by decide +kernel
theorem dX3_difference_55 : decode cX3_difference 55 = .ok (.iload_n 1, 1) := by decide +kernel
theorem dX3_difference_56 : decode cX3_difference 56 = .ok (.ireturn, 1) := by decide +kernel
theorem dX3_hasWord_0 : decode cX3_hasWord 0 = .ok (.iconst 0, 1) := by decide +kernel
theorem dX3_hasWord_1 : decode cX3_hasWord 1 = .ok (.istore_n 3, 1) := by decide +kernel
theorem dX3_hasWord_2 : decode cX3_hasWord 2 = .ok (.iload_n 3, 1) := by decide +kernel
theorem dX3_hasWord_3 : decode cX3_hasWord 3 = .ok (.aload_n 0, 1) := by decide +kernel
theorem dX3_hasWord_4 : decode cX3_hasWord 4 = .ok (.getfield 17, 3) := by decide +kernel
theorem dX3_hasWord_7 : decode cX3_hasWord 7 = .ok (.if_icmp .ge 37, 3) := by decide +kernel
theorem dX3_hasWord_10 : decode cX3_hasWord 10 = .ok (.aload_n 0, 1) := by decide +kernel
theorem dX3_hasWord_11 : decode cX3_hasWord 11 = .ok (.getfield 11, 3) := by decide +kernel
theorem dX3_hasWord_14 : decode cX3_hasWord 14 = .ok (.iload_n 3, 1) := by decide +kernel
theorem dX3_hasWord_15 : decode cX3_hasWord 15 = .ok (.aaload, 1) := by decide +kernel
theorem dX3_hasWord_16 : decode cX3_hasWord 16 = .ok (.getfield 47, 3) := by decide +kernel
theorem dX3_hasWord_19 : decode cX3_hasWord 19 = .ok (.iload_n 1, 1) := by decide +kernel
theorem dX3_hasWord_20 : decode cX3_hasWord 20 = .ok (.if_icmp .ne 18, 3) := by decide +kernel
theorem dX3_hasWord_23 : decode cX3_hasWord 23 = .ok (.aload_n 0, 1) := by decide +kernel
theorem dX3_hasWord_24 : decode cX3_hasWord 24 = .ok (.getfield 11, 3) := by decide +kernel
theorem dX3_hasWord_27 : decode cX3_hasWord 27 = .ok (.iload_n 3, 1) := by decide +kernel
theorem dX3_hasWord_28 : decode cX3_hasWord 28 = .ok (.aaload, 1) := by decide +kernel
theorem dX3_hasWord_29 : decode cX3_hasWord 29 = .ok (.getfield 53, 3) := by decide +kernel
theorem dX3_hasWord_32 : decode cX3_hasWord 32 = .ok (.iload_n 2, 1) := by decide +kernel
theorem dX3_hasWord_33 : decode cX3_hasWord 33 = .ok (.if_icmp .ne 5, 3) := by decide +kernel
theorem dX3_hasWord_36 : decode cX3_hasWord 36 = .ok (.iconst 1, 1) := by decide +kernel
theorem dX3_hasWord_37 : decode cX3_hasWord 37 = .ok (.ireturn, 1) := by decide +kernel
theorem dX3_hasWord_38 : decode cX3_hasWord 38 = .ok (.iinc 3 1, 3) := by decide +kernel
theorem dX3_hasWord_41 : decode cX3_hasWord 41 = .ok (.goto (-39), 3) := by decide +kernel
theorem dX3_hasWord_44 : decode cX3_hasWord 44 = .ok (.iconst 0, 1) := by decide +kernel
theorem dX3_hasWord_45 : decode cX3_hasWord 45 = .ok (.ireturn, 1) := by decide +kernel
theorem dX3_hasBothBooks_0 : decode cX3_hasBothBooks 0 = .ok (.iconst 0, 1) := by decide +kernel
theorem dX3_hasBothBooks_1 : decode cX3_hasBothBooks 1 = .ok (.istore_n 1, 1) := by decide +kernel
theorem dX3_hasBothBooks_2 : decode cX3_hasBothBooks 2 = .ok (.iconst 0, 1) := by decide +kernel
theorem dX3_hasBothBooks_3 : decode cX3_hasBothBooks 3 = .ok (.istore_n 2, 1) := by decide +kernel
theorem dX3_hasBothBooks_4 : decode cX3_hasBothBooks 4 = .ok (.iload_n 2, 1) := by decide +kernel
theorem dX3_hasBothBooks_5 : decode cX3_hasBothBooks 5 = .ok (.aload_n 0, 1) := by decide +kernel
theorem dX3_hasBothBooks_6 : decode cX3_hasBothBooks 6 = .ok (.getfield 17, 3) := by decide +kernel
theorem dX3_hasBothBooks_9 : decode cX3_hasBothBooks 9 = .ok (.if_icmp .ge 24, 3) := by decide +kernel
theorem dX3_hasBothBooks_12 : decode cX3_hasBothBooks 12 = .ok (.aload_n 0, 1) := by decide +kernel
theorem dX3_hasBothBooks_13 : decode cX3_hasBothBooks 13 = .ok (.getfield 11, 3) := by decide +kernel
theorem dX3_hasBothBooks_16 : decode cX3_hasBothBooks 16 = .ok (.iload_n 2, 1) := by decide +kernel
theorem dX3_hasBothBooks_17 : decode cX3_hasBothBooks 17 = .ok (.aaload, 1) := by decide +kernel
theorem dX3_hasBothBooks_18 : decode cX3_hasBothBooks 18 = .ok (.getfield 47, 3) := by decide +kernel
theorem dX3_hasBothBooks_21 : decode cX3_hasBothBooks 21 = .ok (.ifCond .ne 6, 3) := by decide +kernel
theorem dX3_hasBothBooks_24 : decode cX3_hasBothBooks 24 = .ok (.iinc 1 1, 3) := by decide +kernel
theorem dX3_hasBothBooks_27 : decode cX3_hasBothBooks 27 = .ok (.iinc 2 1, 3) := by decide +kernel
theorem dX3_hasBothBooks_30 : decode cX3_hasBothBooks 30 = .ok (.goto (-26), 3) := by decide +kernel
theorem dX3_hasBothBooks_33 : decode cX3_hasBothBooks 33 = .ok (.iload_n 1, 1) := by decide +kernel
theorem dX3_hasBothBooks_34 : decode cX3_hasBothBooks 34 = .ok (.ifCond .le 15, 3) := by decide +kernel
theorem dX3_hasBothBooks_37 : decode cX3_hasBothBooks 37 = .ok (.iload_n 1, 1) := by decide +kernel
theorem dX3_hasBothBooks_38 : decode cX3_hasBothBooks 38 = .ok (.aload_n 0, 1) := by decide +kernel
theorem dX3_hasBothBooks_39 : decode cX3_hasBothBooks 39 = .ok (.getfield 17, 3) := by decide +kernel
theorem dX3_hasBothBooks_42 : decode cX3_hasBothBooks 42 = .ok (.if_icmp .ge 7, 3) := by decide +kernel
theorem dX3_hasBothBooks_45 : decode cX3_hasBothBooks 45 = .ok (.iconst 1, 1) := by decide +kernel
theorem dX3_hasBothBooks_46 : decode cX3_hasBothBooks 46 = .ok (.goto 4, 3) := by decide +kernel
theorem dX3_hasBothBooks_49 : decode cX3_hasBothBooks 49 = .ok (.iconst 0, 1) := by decide +kernel
theorem dX3_hasBothBooks_50 : decode cX3_hasBothBooks 50 = .ok (.ireturn, 1) := by decide +kernel
theorem dX4_init_0 : decode cX4_init 0 = .ok (.aload_n 0, 1) := by decide +kernel
theorem dX4_init_1 : decode cX4_init 1 = .ok (.invokespecial 3, 3) := by decide +kernel
theorem dX4_init_4 : decode cX4_init 4 = .ok (.aload_n 0, 1) := by decide +kernel
theorem dX4_init_5 : decode cX4_init 5 = .ok (.iconst (-1), 1) := by decide +kernel
theorem dX4_init_6 : decode cX4_init 6 = .ok (.putfield 9, 3) := by decide +kernel
theorem dX4_init_9 : decode cX4_init 9 = .ok (.aload_n 0, 1) := by decide +kernel
theorem dX4_init_10 : decode cX4_init 10 = .ok (.iload_n 1, 1) := by decide +kernel
theorem dX4_init_11 : decode cX4_init 11 = .ok (.putfield 15, 3) := by decide +kernel
theorem dX4_init_14 : decode cX4_init 14 = .ok (.aload_n 0, 1) := by decide +kernel
theorem dX4_init_15 : decode cX4_init 15 = .ok (.iload_n 2, 1) := by decide +kernel
theorem dX4_init_16 : decode cX4_init 16 = .ok (.putfield 18, 3) := by decide +kernel
theorem dX4_init_19 : decode cX4_init 19 = .ok (.return_, 1) := by decide +kernel
theorem dX4_write_0 : decode cX4_write 0 = .ok (.aload_n 0, 1) := by decide +kernel
theorem dX4_write_1 : decode cX4_write 1 = .ok (.iload_n 1, 1) := by decide +kernel
theorem dX4_write_2 : decode cX4_write 2 = .ok (.putfield 21, 3) := by decide +kernel
theorem dX4_write_5 : decode cX4_write 5 = .ok (.aload_n 0, 1) := by decide +kernel
theorem dX4_write_6 : decode cX4_write 6 = .ok (.iload_n 2, 1) := by decide +kernel
theorem dX4_write_7 : decode cX4_write 7 = .ok (.putfield 24, 3) := by decide +kernel
theorem dX4_write_10 : decode cX4_write 10 = .ok (.aload_n 0, 1) := by decide +kernel
theorem dX4_write_11 : decode cX4_write 11 = .ok (.iload_n 3, 1) := by decide +kernel
theorem dX4_write_12 : decode cX4_write 12 = .ok (.putfield 27, 3) := by decide +kernel
theorem dX4_write_15 : decode cX4_write 15 = .ok (.aload_n 0, 1) := by decide +kernel
theorem dX4_write_16 : decode cX4_write 16 = .ok (.iload 4, 2) := by decide +kernel
theorem dX4_write_18 : decode cX4_write 18 = .ok (.putfield 30, 3) := by decide +kernel
theorem dX4_write_21 : decode cX4_write 21 = .ok (.aload_n 0, 1) := by decide +kernel
theorem dX4_write_22 : decode cX4_write 22 = .ok (.iload 5, 2) := by decide +kernel
theorem dX4_write_24 : decode cX4_write 24 = .ok (.putfield 33, 3) := by decide +kernel
theorem dX4_write_27 : decode cX4_write 27 = .ok (.aload_n 0, 1) := by decide +kernel
theorem dX4_write_28 : decode cX4_write 28 = .ok (.iconst (-1), 1) := by decide +kernel
theorem dX4_write_29 : decode cX4_write 29 = .ok (.putfield 9, 3) := by decide +kernel
theorem dX4_write_32 : decode cX4_write 32 = .ok (.return_, 1) := by decide +kernel
theorem dX4_isBreak_0 : decode cX4_isBreak 0 = .ok (.aload_n 0, 1) := by decide +kernel
theorem dX4_isBreak_1 : decode cX4_isBreak 1 = .ok (.getfield 9, 3) := by decide +kernel
theorem dX4_isBreak_4 : decode cX4_isBreak 4 = .ok (.iconst (-1), 1) := by decide +kernel
theorem dX4_isBreak_5 : decode cX4_isBreak 5 = .ok (.if_icmp .ne 7, 3) := by decide +kernel
theorem dX4_isBreak_8 : decode cX4_isBreak 8 = .ok (.iconst 1, 1) := by decide +kernel
theorem dX4_isBreak_9 : decode cX4_isBreak 9 = .ok (.goto 4, 3) := by decide +kernel
theorem dX4_isBreak_12 : decode cX4_isBreak 12 = .ok (.iconst 0, 1) := by decide +kernel
theorem dX4_isBreak_13 : decode cX4_isBreak 13 = .ok (.ireturn, 1) := by decide +kernel
theorem dX4_isUnheld_0 : decode cX4_isUnheld 0 = .ok (.aload_n 0, 1) := by decide +kernel
theorem dX4_isUnheld_1 : decode cX4_isUnheld 1 = .ok (.getfield 33, 3) := by decide +kernel
theorem dX4_isUnheld_4 : decode cX4_isUnheld 4 = .ok (.iload_n 1, 1) := by decide +kernel
theorem dX4_isUnheld_5 : decode cX4_isUnheld 5 = .ok (.if_icmp .gt 14, 3) := by decide +kernel
theorem dX4_isUnheld_8 : decode cX4_isUnheld 8 = .ok (.aload_n 0, 1) := by decide +kernel
theorem dX4_isUnheld_9 : decode cX4_isUnheld 9 = .ok (.getfield 36, 3) := by decide +kernel
theorem dX4_isUnheld_12 : decode cX4_isUnheld 12 = .ok (.ifCond .ne 7, 3) := by decide +kernel
theorem dX4_isUnheld_15 : decode cX4_isUnheld 15 = .ok (.iconst 1, 1) := by decide +kernel
theorem dX4_isUnheld_16 : decode cX4_isUnheld 16 = .ok (.goto 4, 3) := by decide +kernel
theorem dX4_isUnheld_19 : decode cX4_isUnheld 19 = .ok (.iconst 0, 1) := by decide +kernel
theorem dX4_isUnheld_20 : decode cX4_isUnheld 20 = .ok (.ireturn, 1) := by decide +kernel
theorem dX5_init_0 : decode cX5_init 0 = .ok (.aload_n 0, 1) := by decide +kernel
theorem dX5_init_1 : decode cX5_init 1 = .ok (.invokespecial 3, 3) := by decide +kernel
theorem dX5_init_4 : decode cX5_init 4 = .ok (.aload_n 0, 1) := by decide +kernel
theorem dX5_init_5 : decode cX5_init 5 = .ok (.new 9, 3) := by decide +kernel
theorem dX5_init_8 : decode cX5_init 8 = .ok (.dup, 1) := by decide +kernel
theorem dX5_init_9 : decode cX5_init 9 = .ok (.invokespecial 11, 3) := by decide +kernel
theorem dX5_init_12 : decode cX5_init 12 = .ok (.putfield 12, 3) := by decide +kernel
theorem dX5_init_15 : decode cX5_init 15 = .ok (.aload_n 0, 1) := by decide +kernel
theorem dX5_init_16 : decode cX5_init 16 = .ok (.bipush 14, 2) := by decide +kernel
theorem dX5_init_18 : decode cX5_init 18 = .ok (.newarray .int, 2) := by decide +kernel
theorem dX5_init_20 : decode cX5_init 20 = .ok (.putfield 18, 3) := by decide +kernel
theorem dX5_init_23 : decode cX5_init 23 = .ok (.aload_n 0, 1) := by decide +kernel
theorem dX5_init_24 : decode cX5_init 24 = .ok (.bipush 14, 2) := by decide +kernel
theorem dX5_init_26 : decode cX5_init 26 = .ok (.newarray .int, 2) := by decide +kernel
theorem dX5_init_28 : decode cX5_init 28 = .ok (.putfield 22, 3) := by decide +kernel
theorem dX5_init_31 : decode cX5_init 31 = .ok (.aload_n 0, 1) := by decide +kernel
theorem dX5_init_32 : decode cX5_init 32 = .ok (.bipush 14, 2) := by decide +kernel
theorem dX5_init_34 : decode cX5_init 34 = .ok (.newarray .int, 2) := by decide +kernel
theorem dX5_init_36 : decode cX5_init 36 = .ok (.putfield 25, 3) := by decide +kernel
theorem dX5_init_39 : decode cX5_init 39 = .ok (.aload_n 0, 1) := by decide +kernel
theorem dX5_init_40 : decode cX5_init 40 = .ok (.bipush 14, 2) := by decide +kernel
theorem dX5_init_42 : decode cX5_init 42 = .ok (.newarray .int, 2) := by decide +kernel
theorem dX5_init_44 : decode cX5_init 44 = .ok (.putfield 28, 3) := by decide +kernel
theorem dX5_init_47 : decode cX5_init 47 = .ok (.aload_n 0, 1) := by decide +kernel
theorem dX5_init_48 : decode cX5_init 48 = .ok (.iconst 0, 1) := by decide +kernel
theorem dX5_init_49 : decode cX5_init 49 = .ok (.putfield 31, 3) := by decide +kernel
theorem dX5_init_52 : decode cX5_init 52 = .ok (.aload_n 0, 1) := by decide +kernel
theorem dX5_init_53 : decode cX5_init 53 = .ok (.iconst 0, 1) := by decide +kernel
theorem dX5_init_54 : decode cX5_init 54 = .ok (.putfield 35, 3) := by decide +kernel
theorem dX5_init_57 : decode cX5_init 57 = .ok (.aload_n 0, 1) := by decide +kernel
theorem dX5_init_58 : decode cX5_init 58 = .ok (.iconst 0, 1) := by decide +kernel
theorem dX5_init_59 : decode cX5_init 59 = .ok (.putfield 38, 3) := by decide +kernel
theorem dX5_init_62 : decode cX5_init 62 = .ok (.aload_n 0, 1) := by decide +kernel
theorem dX5_init_63 : decode cX5_init 63 = .ok (.iconst (-1), 1) := by decide +kernel
theorem dX5_init_64 : decode cX5_init 64 = .ok (.putfield 41, 3) := by decide +kernel
theorem dX5_init_67 : decode cX5_init 67 = .ok (.return_, 1) := by decide +kernel
theorem dX5_gather_0 : decode cX5_gather 0 = .ok (.aload_n 0, 1) := by decide +kernel
theorem dX5_gather_1 : decode cX5_gather 1 = .ok (.aload_n 1, 1) := by decide +kernel
theorem dX5_gather_2 : decode cX5_gather 2 = .ok (.aload_n 0, 1) := by decide +kernel
theorem dX5_gather_3 : decode cX5_gather 3 = .ok (.getfield 18, 3) := by decide +kernel
theorem dX5_gather_6 : decode cX5_gather 6 = .ok (.invokestatic 44, 3) := by decide +kernel
theorem dX5_gather_9 : decode cX5_gather 9 = .ok (.putfield 31, 3) := by decide +kernel
theorem dX5_gather_12 : decode cX5_gather 12 = .ok (.aload_n 0, 1) := by decide +kernel
theorem dX5_gather_13 : decode cX5_gather 13 = .ok (.aload_n 2, 1) := by decide +kernel
theorem dX5_gather_14 : decode cX5_gather 14 = .ok (.aload_n 0, 1) := by decide +kernel
theorem dX5_gather_15 : decode cX5_gather 15 = .ok (.getfield 22, 3) := by decide +kernel
theorem dX5_gather_18 : decode cX5_gather 18 = .ok (.invokestatic 44, 3) := by decide +kernel
theorem dX5_gather_21 : decode cX5_gather 21 = .ok (.putfield 35, 3) := by decide +kernel
theorem dX5_gather_24 : decode cX5_gather 24 = .ok (.aload_n 0, 1) := by decide +kernel
theorem dX5_gather_25 : decode cX5_gather 25 = .ok (.getfield 12, 3) := by decide +kernel
theorem dX5_gather_28 : decode cX5_gather 28 = .ok (.aload_n 0, 1) := by decide +kernel
theorem dX5_gather_29 : decode cX5_gather 29 = .ok (.getfield 31, 3) := by decide +kernel
theorem dX5_gather_32 : decode cX5_gather 32 = .ok (.aload_n 0, 1) := by decide +kernel
theorem dX5_gather_33 : decode cX5_gather 33 = .ok (.getfield 35, 3) := by decide +kernel
theorem dX5_gather_36 : decode cX5_gather 36 = .ok (.invokestatic 48, 3) := by decide +kernel
theorem dX5_gather_39 : decode cX5_gather 39 = .ok (.invokevirtual 54, 3) := by decide +kernel
theorem dX5_gather_42 : decode cX5_gather 42 = .ok (.return_, 1) := by decide +kernel
theorem dX5_gatherBreaks_0 : decode cX5_gatherBreaks 0 = .ok (.iconst 0, 1) := by decide +kernel
theorem dX5_gatherBreaks_1 : decode cX5_gatherBreaks 1 = .ok (.istore_n 2, 1) := by decide +kernel
theorem dX5_gatherBreaks_2 : decode cX5_gatherBreaks 2 = .ok (.iconst 0, 1) := by decide +kernel
theorem dX5_gatherBreaks_3 : decode cX5_gatherBreaks 3 = .ok (.istore_n 3, 1) := by decide +kernel
theorem dX5_gatherBreaks_4 : decode cX5_gatherBreaks 4 = .ok (.iload_n 3, 1) := by decide +kernel
theorem dX5_gatherBreaks_5 : decode cX5_gatherBreaks 5 = .ok (.aload_n 0, 1) := by decide +kernel
theorem dX5_gatherBreaks_6 : decode cX5_gatherBreaks 6 = .ok (.getfield 58, 3) := by decide +kernel
theorem dX5_gatherBreaks_9 : decode cX5_gatherBreaks 9 = .ok (.if_icmp .ge 34, 3) := by decide +kernel
theorem dX5_gatherBreaks_12 : decode cX5_gatherBreaks 12 = .ok (.iload_n 2, 1) := by decide +kernel
theorem dX5_gatherBreaks_13 : decode cX5_gatherBreaks 13 = .ok (.bipush 14, 2) := by decide +kernel
theorem dX5_gatherBreaks_15 : decode cX5_gatherBreaks 15 = .ok (.if_icmp .ge 28, 3) := by decide +kernel
theorem dX5_gatherBreaks_18 : decode cX5_gatherBreaks 18 = .ok (.aload_n 0, 1) := by decide +kernel
theorem dX5_gatherBreaks_19 : decode cX5_gatherBreaks 19 = .ok (.getfield 63, 3) := by decide +kernel
theorem dX5_gatherBreaks_22 : decode cX5_gatherBreaks 22 = .ok (.iload_n 3, 1) := by decide +kernel
theorem dX5_gatherBreaks_23 : decode cX5_gatherBreaks 23 = .ok (.aaload, 1) := by decide +kernel
theorem dX5_gatherBreaks_24 : decode cX5_gatherBreaks 24 = .ok (.invokevirtual 67, 3) := by decide +kernel
theorem dX5_gatherBreaks_27 : decode cX5_gatherBreaks 27 = .ok (.ifCond .eq 10, 3) := by decide +kernel
theorem dX5_gatherBreaks_30 : decode cX5_gatherBreaks 30 = .ok (.aload_n 1, 1) := by decide +kernel
theorem dX5_gatherBreaks_31 : decode cX5_gatherBreaks 31 = .ok (.iload_n 2, 1) := by decide +kernel
theorem dX5_gatherBreaks_32 : decode cX5_gatherBreaks 32 = .ok (.iload_n 3, 1) := by decide +kernel
theorem dX5_gatherBreaks_33 : decode cX5_gatherBreaks 33 = .ok (.iastore, 1) := by decide +kernel
theorem dX5_gatherBreaks_34 : decode cX5_gatherBreaks 34 = .ok (.iinc 2 1, 3) := by decide +kernel
theorem dX5_gatherBreaks_37 : decode cX5_gatherBreaks 37 = .ok (.iinc 3 1, 3) := by decide +kernel
theorem dX5_gatherBreaks_40 : decode cX5_gatherBreaks 40 = .ok (.goto (-36), 3) := by decide +kernel
theorem dX5_gatherBreaks_43 : decode cX5_gatherBreaks 43 = .ok (.iload_n 2, 1) := by decide +kernel
theorem dX5_gatherBreaks_44 : decode cX5_gatherBreaks 44 = .ok (.ireturn, 1) := by decide +kernel
theorem dX5_find_0 : decode cX5_find 0 = .ok (.aload_n 0, 1) := by decide +kernel
theorem dX5_find_1 : decode cX5_find 1 = .ok (.getfield 12, 3) := by decide +kernel
theorem dX5_find_4 : decode cX5_find 4 = .ok (.invokevirtual 73, 3) := by decide +kernel
theorem dX5_find_7 : decode cX5_find 7 = .ok (.aload_n 0, 1) := by decide +kernel
theorem dX5_find_8 : decode cX5_find 8 = .ok (.getfield 12, 3) := by decide +kernel
theorem dX5_find_11 : decode cX5_find 11 = .ok (.invokevirtual 76, 3) := by decide +kernel
theorem dX5_find_14 : decode cX5_find 14 = .ok (.aload_n 0, 1) := by decide +kernel
theorem dX5_find_15 : decode cX5_find 15 = .ok (.aload_n 0, 1) := by decide +kernel
theorem dX5_find_16 : decode cX5_find 16 = .ok (.getfield 12, 3) := by decide +kernel
theorem dX5_find_19 : decode cX5_find 19 = .ok (.invokevirtual 79, 3) := by decide +kernel
theorem dX5_find_22 : decode cX5_find 22 = .ok (.putfield 38, 3) := by decide +kernel
theorem dX5_find_25 : decode cX5_find 25 = .ok (.iconst 0, 1) := by decide +kernel
theorem dX5_find_26 : decode cX5_find 26 = .ok (.istore_n 1, 1) := by decide +kernel
theorem dX5_find_27 : decode cX5_find 27 = .ok (.iload_n 1, 1) := by decide +kernel
theorem dX5_find_28 : decode cX5_find 28 = .ok (.aload_n 0, 1) := by decide +kernel
theorem dX5_find_29 : decode cX5_find 29 = .ok (.getfield 31, 3) := by decide +kernel
theorem dX5_find_32 : decode cX5_find 32 = .ok (.if_icmp .ge 43, 3) := by decide +kernel
theorem dX5_find_35 : decode cX5_find 35 = .ok (.aload_n 0, 1) := by decide +kernel
theorem dX5_find_36 : decode cX5_find 36 = .ok (.getfield 12, 3) := by decide +kernel
theorem dX5_find_39 : decode cX5_find 39 = .ok (.iload_n 1, 1) := by decide +kernel
theorem dX5_find_40 : decode cX5_find 40 = .ok (.invokevirtual 82, 3) := by decide +kernel
theorem dX5_find_43 : decode cX5_find 43 = .ok (.istore_n 2, 1) := by decide +kernel
theorem dX5_find_44 : decode cX5_find 44 = .ok (.aload_n 0, 1) := by decide +kernel
theorem dX5_find_45 : decode cX5_find 45 = .ok (.getfield 25, 3) := by decide +kernel
theorem dX5_find_48 : decode cX5_find 48 = .ok (.iload_n 1, 1) := by decide +kernel
theorem dX5_find_49 : decode cX5_find 49 = .ok (.aload_n 0, 1) := by decide +kernel
theorem dX5_find_50 : decode cX5_find 50 = .ok (.getfield 12, 3) := by decide +kernel
theorem dX5_find_53 : decode cX5_find 53 = .ok (.getfield 86, 3) := by decide +kernel
theorem dX5_find_56 : decode cX5_find 56 = .ok (.iload_n 1, 1) := by decide +kernel
theorem dX5_find_57 : decode cX5_find 57 = .ok (.aaload, 1) := by decide +kernel
theorem dX5_find_58 : decode cX5_find 58 = .ok (.iload_n 2, 1) := by decide +kernel
theorem dX5_find_59 : decode cX5_find 59 = .ok (.iaload, 1) := by decide +kernel
theorem dX5_find_60 : decode cX5_find 60 = .ok (.ifCond .le 7, 3) := by decide +kernel
theorem dX5_find_63 : decode cX5_find 63 = .ok (.iload_n 2, 1) := by decide +kernel
theorem dX5_find_64 : decode cX5_find 64 = .ok (.goto 4, 3) := by decide +kernel
theorem dX5_find_67 : decode cX5_find 67 = .ok (.iconst (-1), 1) := by decide +kernel
theorem dX5_find_68 : decode cX5_find 68 = .ok (.iastore, 1) := by decide +kernel
theorem dX5_find_69 : decode cX5_find 69 = .ok (.iinc 1 1, 3) := by decide +kernel
theorem dX5_find_72 : decode cX5_find 72 = .ok (.goto (-45), 3) := by decide +kernel
theorem dX5_find_75 : decode cX5_find 75 = .ok (.aload_n 0, 1) := by decide +kernel
theorem dX5_find_76 : decode cX5_find 76 = .ok (.getfield 12, 3) := by decide +kernel
theorem dX5_find_79 : decode cX5_find 79 = .ok (.invokevirtual 90, 3) := by decide +kernel
theorem dX5_find_82 : decode cX5_find 82 = .ok (.iconst 0, 1) := by decide +kernel
theorem dX5_find_83 : decode cX5_find 83 = .ok (.istore_n 1, 1) := by decide +kernel
theorem dX5_find_84 : decode cX5_find 84 = .ok (.iload_n 1, 1) := by decide +kernel
theorem dX5_find_85 : decode cX5_find 85 = .ok (.aload_n 0, 1) := by decide +kernel
theorem dX5_find_86 : decode cX5_find 86 = .ok (.getfield 31, 3) := by decide +kernel
theorem dX5_find_89 : decode cX5_find 89 = .ok (.if_icmp .ge 48, 3) := by decide +kernel
theorem dX5_find_92 : decode cX5_find 92 = .ok (.aload_n 0, 1) := by decide +kernel
theorem dX5_find_93 : decode cX5_find 93 = .ok (.getfield 28, 3) := by decide +kernel
theorem dX5_find_96 : decode cX5_find 96 = .ok (.iload_n 1, 1) := by decide +kernel
theorem dX5_find_97 : decode cX5_find 97 = .ok (.aload_n 0, 1) := by decide +kernel
theorem dX5_find_98 : decode cX5_find 98 = .ok (.getfield 25, 3) := by decide +kernel
theorem dX5_find_101 : decode cX5_find 101 = .ok (.iload_n 1, 1) := by decide +kernel
theorem dX5_find_102 : decode cX5_find 102 = .ok (.iaload, 1) := by decide +kernel
theorem dX5_find_103 : decode cX5_find 103 = .ok (.iconst (-1), 1) := by decide +kernel
theorem dX5_find_104 : decode cX5_find 104 = .ok (.if_icmp .ne 7, 3) := by decide +kernel
theorem dX5_find_107 : decode cX5_find 107 = .ok (.iconst 1, 1) := by decide +kernel
theorem dX5_find_108 : decode cX5_find 108 = .ok (.goto 22, 3) := by decide +kernel
theorem dX5_find_111 : decode cX5_find 111 = .ok (.aload_n 0, 1) := by decide +kernel
theorem dX5_find_112 : decode cX5_find 112 = .ok (.getfield 12, 3) := by decide +kernel
theorem dX5_find_115 : decode cX5_find 115 = .ok (.iload_n 1, 1) := by decide +kernel
theorem dX5_find_116 : decode cX5_find 116 = .ok (.aload_n 0, 1) := by decide +kernel
theorem dX5_find_117 : decode cX5_find 117 = .ok (.getfield 25, 3) := by decide +kernel
theorem dX5_find_120 : decode cX5_find 120 = .ok (.iload_n 1, 1) := by decide +kernel
theorem dX5_find_121 : decode cX5_find 121 = .ok (.iaload, 1) := by decide +kernel
theorem dX5_find_122 : decode cX5_find 122 = .ok (.invokevirtual 93, 3) := by decide +kernel
theorem dX5_find_125 : decode cX5_find 125 = .ok (.aload_n 0, 1) := by decide +kernel
theorem dX5_find_126 : decode cX5_find 126 = .ok (.getfield 38, 3) := by decide +kernel
theorem dX5_find_129 : decode cX5_find 129 = .ok (.isub, 1) := by decide +kernel
theorem dX5_find_130 : decode cX5_find 130 = .ok (.iastore, 1) := by decide +kernel
theorem dX5_find_131 : decode cX5_find 131 = .ok (.iinc 1 1, 3) := by decide +kernel
theorem dX5_find_134 : decode cX5_find 134 = .ok (.goto (-50), 3) := by decide +kernel
theorem dX5_find_137 : decode cX5_find 137 = .ok (.return_, 1) := by decide +kernel
theorem dX5_rowOf_0 : decode cX5_rowOf 0 = .ok (.iconst 0, 1) := by decide +kernel
theorem dX5_rowOf_1 : decode cX5_rowOf 1 = .ok (.istore_n 2, 1) := by decide +kernel
theorem dX5_rowOf_2 : decode cX5_rowOf 2 = .ok (.iload_n 2, 1) := by decide +kernel
theorem dX5_rowOf_3 : decode cX5_rowOf 3 = .ok (.aload_n 0, 1) := by decide +kernel
theorem dX5_rowOf_4 : decode cX5_rowOf 4 = .ok (.getfield 31, 3) := by decide +kernel
theorem dX5_rowOf_7 : decode cX5_rowOf 7 = .ok (.if_icmp .ge 21, 3) := by decide +kernel
theorem dX5_rowOf_10 : decode cX5_rowOf 10 = .ok (.aload_n 0, 1) := by decide +kernel
theorem dX5_rowOf_11 : decode cX5_rowOf 11 = .ok (.getfield 18, 3) := by decide +kernel
theorem dX5_rowOf_14 : decode cX5_rowOf 14 = .ok (.iload_n 2, 1) := by decide +kernel
theorem dX5_rowOf_15 : decode cX5_rowOf 15 = .ok (.iaload, 1) := by decide +kernel
theorem dX5_rowOf_16 : decode cX5_rowOf 16 = .ok (.iload_n 1, 1) := by decide +kernel
theorem dX5_rowOf_17 : decode cX5_rowOf 17 = .ok (.if_icmp .ne 5, 3) := by decide +kernel
theorem dX5_rowOf_20 : decode cX5_rowOf 20 = .ok (.iload_n 2, 1) := by decide +kernel
theorem dX5_rowOf_21 : decode cX5_rowOf 21 = .ok (.ireturn, 1) := by decide +kernel
theorem dX5_rowOf_22 : decode cX5_rowOf 22 = .ok (.iinc 2 1, 3) := by decide +kernel
theorem dX5_rowOf_25 : decode cX5_rowOf 25 = .ok (.goto (-23), 3) := by decide +kernel
theorem dX5_rowOf_28 : decode cX5_rowOf 28 = .ok (.iconst (-1), 1) := by decide +kernel
theorem dX5_rowOf_29 : decode cX5_rowOf 29 = .ok (.ireturn, 1) := by decide +kernel
theorem dX5_isSure_0 : decode cX5_isSure 0 = .ok (.aload_n 0, 1) := by decide +kernel
theorem dX5_isSure_1 : decode cX5_isSure 1 = .ok (.getfield 25, 3) := by decide +kernel
theorem dX5_isSure_4 : decode cX5_isSure 4 = .ok (.iload_n 1, 1) := by decide +kernel
theorem dX5_isSure_5 : decode cX5_isSure 5 = .ok (.iaload, 1) := by decide +kernel
theorem dX5_isSure_6 : decode cX5_isSure 6 = .ok (.iconst (-1), 1) := by decide +kernel
theorem dX5_isSure_7 : decode cX5_isSure 7 = .ok (.if_icmp .eq 18, 3) := by decide +kernel
theorem dX5_isSure_10 : decode cX5_isSure 10 = .ok (.aload_n 0, 1) := by decide +kernel
theorem dX5_isSure_11 : decode cX5_isSure 11 = .ok (.getfield 28, 3) := by decide +kernel
theorem dX5_isSure_14 : decode cX5_isSure 14 = .ok (.iload_n 1, 1) := by decide +kernel
theorem dX5_isSure_15 : decode cX5_isSure 15 = .ok (.iaload, 1) := by decide +kernel
theorem dX5_isSure_16 : decode cX5_isSure 16 = .ok (.iload_n 2, 1) := by decide +kernel
theorem dX5_isSure_17 : decode cX5_isSure 17 = .ok (.ineg, 1) := by decide +kernel
theorem dX5_isSure_18 : decode cX5_isSure 18 = .ok (.if_icmp .gt 7, 3) := by decide +kernel
theorem dX5_isSure_21 : decode cX5_isSure 21 = .ok (.iconst 1, 1) := by decide +kernel
theorem dX5_isSure_22 : decode cX5_isSure 22 = .ok (.goto 4, 3) := by decide +kernel
theorem dX5_isSure_25 : decode cX5_isSure 25 = .ok (.iconst 0, 1) := by decide +kernel
theorem dX5_isSure_26 : decode cX5_isSure 26 = .ok (.ireturn, 1) := by decide +kernel
theorem dX5_countSure_0 : decode cX5_countSure 0 = .ok (.iconst 0, 1) := by decide +kernel
theorem dX5_countSure_1 : decode cX5_countSure 1 = .ok (.istore_n 2, 1) := by decide +kernel
theorem dX5_countSure_2 : decode cX5_countSure 2 = .ok (.iconst 0, 1) := by decide +kernel
theorem dX5_countSure_3 : decode cX5_countSure 3 = .ok (.istore_n 3, 1) := by decide +kernel
theorem dX5_countSure_4 : decode cX5_countSure 4 = .ok (.iload_n 3, 1) := by decide +kernel
theorem dX5_countSure_5 : decode cX5_countSure 5 = .ok (.aload_n 0, 1) := by decide +kernel
theorem dX5_countSure_6 : decode cX5_countSure 6 = .ok (.getfield 31, 3) := by decide +kernel
theorem dX5_countSure_9 : decode cX5_countSure 9 = .ok (.if_icmp .ge 21, 3) := by decide +kernel
theorem dX5_countSure_12 : decode cX5_countSure 12 = .ok (.aload_n 0, 1) := by decide +kernel
theorem dX5_countSure_13 : decode cX5_countSure 13 = .ok (.iload_n 3, 1) := by decide +kernel
theorem dX5_countSure_14 : decode cX5_countSure 14 = .ok (.iload_n 1, 1) := by decide +kernel
theorem dX5_countSure_15 : decode cX5_countSure 15 = .ok (.invokevirtual 96, 3) := by decide +kernel
theorem dX5_countSure_18 : decode cX5_countSure 18 = .ok (.ifCond .eq 6, 3) := by decide +kernel
theorem dX5_countSure_21 : decode cX5_countSure 21 = .ok (.iinc 2 1, 3) := by decide +kernel
theorem dX5_countSure_24 : decode cX5_countSure 24 = .ok (.iinc 3 1, 3) := by decide +kernel
theorem dX5_countSure_27 : decode cX5_countSure 27 = .ok (.goto (-23), 3) := by decide +kernel
theorem dX5_countSure_30 : decode cX5_countSure 30 = .ok (.iload_n 2, 1) := by decide +kernel
theorem dX5_countSure_31 : decode cX5_countSure 31 = .ok (.ireturn, 1) := by decide +kernel
theorem dX6_init_0 : decode cX6_init 0 = .ok (.aload_n 0, 1) := by decide +kernel
theorem dX6_init_1 : decode cX6_init 1 = .ok (.invokespecial 3, 3) := by decide +kernel
theorem dX6_init_4 : decode cX6_init 4 = .ok (.aload_n 0, 1) := by decide +kernel
theorem dX6_init_5 : decode cX6_init 5 = .ok (.bipush 14, 2) := by decide +kernel
theorem dX6_init_7 : decode cX6_init 7 = .ok (.bipush 14, 2) := by decide +kernel
theorem dX6_init_9 : decode cX6_init 9 = .ok (.multianewarray 9 2, 4) := by decide +kernel
theorem dX6_init_13 : decode cX6_init 13 = .ok (.putfield 11, 3) := by decide +kernel
theorem dX6_init_16 : decode cX6_init 16 = .ok (.aload_n 0, 1) := by decide +kernel
theorem dX6_init_17 : decode cX6_init 17 = .ok (.iconst 0, 1) := by decide +kernel
theorem dX6_init_18 : decode cX6_init 18 = .ok (.putfield 16, 3) := by decide +kernel
theorem dX6_init_21 : decode cX6_init 21 = .ok (.aload_n 0, 1) := by decide +kernel
theorem dX6_init_22 : decode cX6_init 22 = .ok (.bipush 14, 2) := by decide +kernel
theorem dX6_init_24 : decode cX6_init 24 = .ok (.newarray .int, 2) := by decide +kernel
theorem dX6_init_26 : decode cX6_init 26 = .ok (.putfield 20, 3) := by decide +kernel
theorem dX6_init_29 : decode cX6_init 29 = .ok (.aload_n 0, 1) := by decide +kernel
theorem dX6_init_30 : decode cX6_init 30 = .ok (.bipush 15, 2) := by decide +kernel
theorem dX6_init_32 : decode cX6_init 32 = .ok (.newarray .int, 2) := by decide +kernel
