theorem dX0_init_0 : decode cX0_init 0 = .ok (.aload_n 0, 1) := by decide +kernel
theorem dX0_init_1 : decode cX0_init 1 = .ok (.invokespecial 3, 3) := by decide +kernel
theorem dX0_init_4 : decode cX0_init 4 = .ok (.aload_n 0, 1) := by decide +kernel
theorem dX0_init_5 : decode cX0_init 5 = .ok (.bipush 60, 2) := by decide +kernel
theorem dX0_init_7 : decode cX0_init 7 = .ok (.anewarray 9, 3) := by decide +kernel
theorem dX0_init_10 : decode cX0_init 10 = .ok (.putfield 11, 3) := by decide +kernel
theorem dX0_init_13 : decode cX0_init 13 = .ok (.aload_n 0, 1) := by decide +kernel
theorem dX0_init_14 : decode cX0_init 14 = .ok (.bipush 60, 2) := by decide +kernel
theorem dX0_init_16 : decode cX0_init 16 = .ok (.newarray .long, 2) := by decide +kernel
theorem dX0_init_18 : decode cX0_init 18 = .ok (.putfield 17, 3) := by decide +kernel
theorem dX0_init_21 : decode cX0_init 21 = .ok (.return_, 1) := by decide +kernel
theorem dX0_gather_0 : decode cX0_gather 0 = .ok (.aload_n 0, 1) := by decide +kernel
theorem dX0_gather_1 : decode cX0_gather 1 = .ok (.iconst 0, 1) := by decide +kernel
theorem dX0_gather_2 : decode cX0_gather 2 = .ok (.putfield 21, 3) := by decide +kernel
theorem dX0_gather_5 : decode cX0_gather 5 = .ok (.aload_n 1, 1) := by decide +kernel
theorem dX0_gather_6 : decode cX0_gather 6 = .ok (.astore_n 2, 1) := by decide +kernel
theorem dX0_gather_7 : decode cX0_gather 7 = .ok (.aload_n 2, 1) := by decide +kernel
theorem dX0_gather_8 : decode cX0_gather 8 = .ok (.arraylength, 1) := by decide +kernel
theorem dX0_gather_9 : decode cX0_gather 9 = .ok (.istore_n 3, 1) := by decide +kernel
theorem dX0_gather_10 : decode cX0_gather 10 = .ok (.iconst 0, 1) := by decide +kernel
theorem dX0_gather_11 : decode cX0_gather 11 = .ok (.istore 4, 2) := by decide +kernel
theorem dX0_gather_13 : decode cX0_gather 13 = .ok (.iload 4, 2) := by decide +kernel
theorem dX0_gather_15 : decode cX0_gather 15 = .ok (.iload_n 3, 1) := by decide +kernel
theorem dX0_gather_16 : decode cX0_gather 16 = .ok (.if_icmp .ge 53, 3) := by decide +kernel
theorem dX0_gather_19 : decode cX0_gather 19 = .ok (.aload_n 2, 1) := by decide +kernel
theorem dX0_gather_20 : decode cX0_gather 20 = .ok (.iload 4, 2) := by decide +kernel
theorem dX0_gather_22 : decode cX0_gather 22 = .ok (.aaload, 1) := by decide +kernel
theorem dX0_gather_23 : decode cX0_gather 23 = .ok (.astore 5, 2) := by decide +kernel
theorem dX0_gather_25 : decode cX0_gather 25 = .ok (.aload 5, 2) := by decide +kernel
theorem dX0_gather_27 : decode cX0_gather 27 = .ok (.ifnull 36, 3) := by decide +kernel
theorem dX0_gather_30 : decode cX0_gather 30 = .ok (.aload_n 0, 1) := by decide +kernel
theorem dX0_gather_31 : decode cX0_gather 31 = .ok (.getfield 21, 3) := by decide +kernel
theorem dX0_gather_34 : decode cX0_gather 34 = .ok (.aload_n 0, 1) := by decide +kernel
theorem dX0_gather_35 : decode cX0_gather 35 = .ok (.getfield 11, 3) := by decide +kernel
theorem dX0_gather_38 : decode cX0_gather 38 = .ok (.arraylength, 1) := by decide +kernel
theorem dX0_gather_39 : decode cX0_gather 39 = .ok (.if_icmp .ge 24, 3) := by decide +kernel
theorem dX0_gather_42 : decode cX0_gather 42 = .ok (.aload_n 0, 1) := by decide +kernel
theorem dX0_gather_43 : decode cX0_gather 43 = .ok (.getfield 11, 3) := by decide +kernel
theorem dX0_gather_46 : decode cX0_gather 46 = .ok (.aload_n 0, 1) := by decide +kernel
theorem dX0_gather_47 : decode cX0_gather 47 = .ok (.getfield 21, 3) := by decide +kernel
theorem dX0_gather_50 : decode cX0_gather 50 = .ok (.aload 5, 2) := by decide +kernel
theorem dX0_gather_52 : decode cX0_gather 52 = .ok (.aastore, 1) := by decide +kernel
theorem dX0_gather_53 : decode cX0_gather 53 = .ok (.aload_n 0, 1) := by decide +kernel
theorem dX0_gather_54 : decode cX0_gather 54 = .ok (.dup, 1) := by decide +kernel
theorem dX0_gather_55 : decode cX0_gather 55 = .ok (.getfield 21, 3) := by decide +kernel
theorem dX0_gather_58 : decode cX0_gather 58 = .ok (.iconst 1, 1) := by decide +kernel
theorem dX0_gather_59 : decode cX0_gather 59 = .ok (.iadd, 1) := by decide +kernel
theorem dX0_gather_60 : decode cX0_gather 60 = .ok (.putfield 21, 3) := by decide +kernel
theorem dX0_gather_63 : decode cX0_gather 63 = .ok (.iinc 4 1, 3) := by decide +kernel
theorem dX0_gather_66 : decode cX0_gather 66 = .ok (.goto (-53), 3) := by decide +kernel
theorem dX0_gather_69 : decode cX0_gather 69 = .ok (.return_, 1) := by decide +kernel
theorem dX0_findNearestPair_0 : decode cX0_findNearestPair 0 = .ok (.aload_n 0, 1) := by decide +kernel
theorem dX0_findNearestPair_1 : decode cX0_findNearestPair 1 = .ok (.ldc2_w 27, 3) := by decide +kernel
theorem dX0_findNearestPair_4 : decode cX0_findNearestPair 4 = .ok (.putfield 29, 3) := by decide +kernel
theorem dX0_findNearestPair_7 : decode cX0_findNearestPair 7 = .ok (.iconst 0, 1) := by decide +kernel
theorem dX0_findNearestPair_8 : decode cX0_findNearestPair 8 = .ok (.istore_n 2, 1) := by decide +kernel
theorem dX0_findNearestPair_9 : decode cX0_findNearestPair 9 = .ok (.iload_n 2, 1) := by decide +kernel
theorem dX0_findNearestPair_10 : decode cX0_findNearestPair 10 = .ok (.aload_n 1, 1) := by decide +kernel
theorem dX0_findNearestPair_11 : decode cX0_findNearestPair 11 = .ok (.arraylength, 1) := by decide +kernel
theorem dX0_findNearestPair_12 : decode cX0_findNearestPair 12 = .ok (.if_icmp .ge 35, 3) := by decide +kernel
theorem dX0_findNearestPair_15 : decode cX0_findNearestPair 15 = .ok (.iload_n 2, 1) := by decide +kernel
theorem dX0_findNearestPair_16 : decode cX0_findNearestPair 16 = .ok (.iconst 1, 1) := by decide +kernel
theorem dX0_findNearestPair_17 : decode cX0_findNearestPair 17 = .ok (.iadd, 1) := by decide +kernel
theorem dX0_findNearestPair_18 : decode cX0_findNearestPair 18 = .ok (.istore_n 3, 1) := by decide +kernel
theorem dX0_findNearestPair_19 : decode cX0_findNearestPair 19 = .ok (.iload_n 3, 1) := by decide +kernel
theorem dX0_findNearestPair_20 : decode cX0_findNearestPair 20 = .ok (.aload_n 1, 1) := by decide +kernel
theorem dX0_findNearestPair_21 : decode cX0_findNearestPair 21 = .ok (.arraylength, 1) := by decide +kernel
theorem dX0_findNearestPair_22 : decode cX0_findNearestPair 22 = .ok (.if_icmp .ge 19, 3) := by decide +kernel
theorem dX0_findNearestPair_25 : decode cX0_findNearestPair 25 = .ok (.aload_n 0, 1) := by decide +kernel
theorem dX0_findNearestPair_26 : decode cX0_findNearestPair 26 = .ok (.aload_n 1, 1) := by decide +kernel
theorem dX0_findNearestPair_27 : decode cX0_findNearestPair 27 = .ok (.iload_n 2, 1) := by decide +kernel
theorem dX0_findNearestPair_28 : decode cX0_findNearestPair 28 = .ok (.aaload, 1) := by decide +kernel
theorem dX0_findNearestPair_29 : decode cX0_findNearestPair 29 = .ok (.aload_n 1, 1) := by decide +kernel
theorem dX0_findNearestPair_30 : decode cX0_findNearestPair 30 = .ok (.iload_n 3, 1) := by decide +kernel
theorem dX0_findNearestPair_31 : decode cX0_findNearestPair 31 = .ok (.aaload, 1) := by decide +kernel
theorem dX0_findNearestPair_32 : decode cX0_findNearestPair 32 = .ok (.invokevirtual 33, 3) := by decide +kernel
theorem dX0_findNearestPair_35 : decode cX0_findNearestPair 35 = .ok (.iinc 3 1, 3) := by decide +kernel
theorem dX0_findNearestPair_38 : decode cX0_findNearestPair 38 = .ok (.goto (-19), 3) := by decide +kernel
theorem dX0_findNearestPair_41 : decode cX0_findNearestPair 41 = .ok (.iinc 2 1, 3) := by decide +kernel
theorem dX0_findNearestPair_44 : decode cX0_findNearestPair 44 = .ok (.goto (-35), 3) := by decide +kernel
theorem dX0_findNearestPair_47 : decode cX0_findNearestPair 47 = .ok (.return_, 1) := by decide +kernel
theorem dX0_comparePair_0 : decode cX0_comparePair 0 = .ok (.aload_n 1, 1) := by decide +kernel
theorem dX0_comparePair_1 : decode cX0_comparePair 1 = .ok (.ifnull 7, 3) := by decide +kernel
theorem dX0_comparePair_4 : decode cX0_comparePair 4 = .ok (.aload_n 2, 1) := by decide +kernel
theorem dX0_comparePair_5 : decode cX0_comparePair 5 = .ok (.ifnonnull 4, 3) := by decide +kernel
theorem dX0_comparePair_8 : decode cX0_comparePair 8 = .ok (.return_, 1) := by decide +kernel
theorem dX0_comparePair_9 : decode cX0_comparePair 9 = .ok (.aload_n 1, 1) := by decide +kernel
theorem dX0_comparePair_10 : decode cX0_comparePair 10 = .ok (.getfield 37, 3) := by decide +kernel
theorem dX0_comparePair_13 : decode cX0_comparePair 13 = .ok (.aload_n 2, 1) := by decide +kernel
theorem dX0_comparePair_14 : decode cX0_comparePair 14 = .ok (.getfield 37, 3) := by decide +kernel
theorem dX0_comparePair_17 : decode cX0_comparePair 17 = .ok (.invokevirtual 41, 3) := by decide +kernel
theorem dX0_comparePair_20 : decode cX0_comparePair 20 = .ok (.lstore_n 3, 1) := by decide +kernel
theorem dX0_comparePair_21 : decode cX0_comparePair 21 = .ok (.lload_n 3, 1) := by decide +kernel
theorem dX0_comparePair_22 : decode cX0_comparePair 22 = .ok (.aload_n 0, 1) := by decide +kernel
theorem dX0_comparePair_23 : decode cX0_comparePair 23 = .ok (.getfield 29, 3) := by decide +kernel
theorem dX0_comparePair_26 : decode cX0_comparePair 26 = .ok (.lcmp, 1) := by decide +kernel
theorem dX0_comparePair_27 : decode cX0_comparePair 27 = .ok (.ifCond .ge 24, 3) := by decide +kernel
theorem dX0_comparePair_30 : decode cX0_comparePair 30 = .ok (.aload_n 0, 1) := by decide +kernel
theorem dX0_comparePair_31 : decode cX0_comparePair 31 = .ok (.lload_n 3, 1) := by decide +kernel
theorem dX0_comparePair_32 : decode cX0_comparePair 32 = .ok (.putfield 29, 3) := by decide +kernel
theorem dX0_comparePair_35 : decode cX0_comparePair 35 = .ok (.aload_n 0, 1) := by decide +kernel
theorem dX0_comparePair_36 : decode cX0_comparePair 36 = .ok (.aload_n 1, 1) := by decide +kernel
theorem dX0_comparePair_37 : decode cX0_comparePair 37 = .ok (.getfield 47, 3) := by decide +kernel
theorem dX0_comparePair_40 : decode cX0_comparePair 40 = .ok (.putfield 50, 3) := by decide +kernel
theorem dX0_comparePair_43 : decode cX0_comparePair 43 = .ok (.aload_n 0, 1) := by decide +kernel
theorem dX0_comparePair_44 : decode cX0_comparePair 44 = .ok (.aload_n 2, 1) := by decide +kernel
theorem dX0_comparePair_45 : decode cX0_comparePair 45 = .ok (.getfield 47, 3) := by decide +kernel
theorem dX0_comparePair_48 : decode cX0_comparePair 48 = .ok (.putfield 53, 3) := by decide +kernel
theorem dX0_comparePair_51 : decode cX0_comparePair 51 = .ok (.return_, 1) := by decide +kernel
theorem dX0_joinAll_0 : decode cX0_joinAll 0 = .ok (.aload_n 0, 1) := by decide +kernel
theorem dX0_joinAll_1 : decode cX0_joinAll 1 = .ok (.aload_n 1, 1) := by decide +kernel
theorem dX0_joinAll_2 : decode cX0_joinAll 2 = .ok (.invokevirtual 56, 3) := by decide +kernel
theorem dX0_joinAll_5 : decode cX0_joinAll 5 = .ok (.iconst 0, 1) := by decide +kernel
theorem dX0_joinAll_6 : decode cX0_joinAll 6 = .ok (.istore_n 2, 1) := by decide +kernel
theorem dX0_joinAll_7 : decode cX0_joinAll 7 = .ok (.iload_n 2, 1) := by decide +kernel
theorem dX0_joinAll_8 : decode cX0_joinAll 8 = .ok (.aload_n 0, 1) := by decide +kernel
theorem dX0_joinAll_9 : decode cX0_joinAll 9 = .ok (.getfield 21, 3) := by decide +kernel
theorem dX0_joinAll_12 : decode cX0_joinAll 12 = .ok (.if_icmp .ge 18, 3) := by decide +kernel
theorem dX0_joinAll_15 : decode cX0_joinAll 15 = .ok (.aload_n 0, 1) := by decide +kernel
theorem dX0_joinAll_16 : decode cX0_joinAll 16 = .ok (.getfield 17, 3) := by decide +kernel
theorem dX0_joinAll_19 : decode cX0_joinAll 19 = .ok (.iload_n 2, 1) := by decide +kernel
theorem dX0_joinAll_20 : decode cX0_joinAll 20 = .ok (.ldc2_w 27, 3) := by decide +kernel
theorem dX0_joinAll_23 : decode cX0_joinAll 23 = .ok (.lastore, 1) := by decide +kernel
theorem dX0_joinAll_24 : decode cX0_joinAll 24 = .ok (.iinc 2 1, 3) := by decide +kernel
theorem dX0_joinAll_27 : decode cX0_joinAll 27 = .ok (.goto (-20), 3) := by decide +kernel
theorem dX0_joinAll_30 : decode cX0_joinAll 30 = .ok (.iconst 1, 1) := by decide +kernel
theorem dX0_joinAll_31 : decode cX0_joinAll 31 = .ok (.istore_n 2, 1) := by decide +kernel
theorem dX0_joinAll_32 : decode cX0_joinAll 32 = .ok (.iload_n 2, 1) := by decide +kernel
theorem dX0_joinAll_33 : decode cX0_joinAll 33 = .ok (.aload_n 0, 1) := by decide +kernel
theorem dX0_joinAll_34 : decode cX0_joinAll 34 = .ok (.getfield 21, 3) := by decide +kernel
theorem dX0_joinAll_37 : decode cX0_joinAll 37 = .ok (.if_icmp .ge 32, 3) := by decide +kernel
theorem dX0_joinAll_40 : decode cX0_joinAll 40 = .ok (.aload_n 0, 1) := by decide +kernel
theorem dX0_joinAll_41 : decode cX0_joinAll 41 = .ok (.aload_n 0, 1) := by decide +kernel
theorem dX0_joinAll_42 : decode cX0_joinAll 42 = .ok (.getfield 11, 3) := by decide +kernel
theorem dX0_joinAll_45 : decode cX0_joinAll 45 = .ok (.iload_n 2, 1) := by decide +kernel
theorem dX0_joinAll_46 : decode cX0_joinAll 46 = .ok (.iconst 1, 1) := by decide +kernel
theorem dX0_joinAll_47 : decode cX0_joinAll 47 = .ok (.isub, 1) := by decide +kernel
theorem dX0_joinAll_48 : decode cX0_joinAll 48 = .ok (.aaload, 1) := by decide +kernel
theorem dX0_joinAll_49 : decode cX0_joinAll 49 = .ok (.iload_n 2, 1) := by decide +kernel
theorem dX0_joinAll_50 : decode cX0_joinAll 50 = .ok (.invokevirtual 60, 3) := by decide +kernel
theorem dX0_joinAll_53 : decode cX0_joinAll 53 = .ok (.aload_n 0, 1) := by decide +kernel
theorem dX0_joinAll_54 : decode cX0_joinAll 54 = .ok (.iload_n 2, 1) := by decide +kernel
theorem dX0_joinAll_55 : decode cX0_joinAll 55 = .ok (.aload_n 0, 1) := by decide +kernel
theorem dX0_joinAll_56 : decode cX0_joinAll 56 = .ok (.iload_n 2, 1) := by decide +kernel
theorem dX0_joinAll_57 : decode cX0_joinAll 57 = .ok (.invokevirtual 64, 3) := by decide +kernel
theorem dX0_joinAll_60 : decode cX0_joinAll 60 = .ok (.invokevirtual 68, 3) := by decide +kernel
theorem dX0_joinAll_63 : decode cX0_joinAll 63 = .ok (.iinc 2 1, 3) := by decide +kernel
theorem dX0_joinAll_66 : decode cX0_joinAll 66 = .ok (.goto (-34), 3) := by decide +kernel
theorem dX0_joinAll_69 : decode cX0_joinAll 69 = .ok (.return_, 1) := by decide +kernel
theorem dX0_reachFrom_0 : decode cX0_reachFrom 0 = .ok (.iload_n 2, 1) := by decide +kernel
theorem dX0_reachFrom_1 : decode cX0_reachFrom 1 = .ok (.istore_n 3, 1) := by decide +kernel
theorem dX0_reachFrom_2 : decode cX0_reachFrom 2 = .ok (.iload_n 3, 1) := by decide +kernel
theorem dX0_reachFrom_3 : decode cX0_reachFrom 3 = .ok (.aload_n 0, 1) := by decide +kernel
theorem dX0_reachFrom_4 : decode cX0_reachFrom 4 = .ok (.getfield 21, 3) := by decide +kernel
theorem dX0_reachFrom_7 : decode cX0_reachFrom 7 = .ok (.if_icmp .ge 53, 3) := by decide +kernel
theorem dX0_reachFrom_10 : decode cX0_reachFrom 10 = .ok (.aload_n 0, 1) := by decide +kernel
theorem dX0_reachFrom_11 : decode cX0_reachFrom 11 = .ok (.getfield 11, 3) := by decide +kernel
theorem dX0_reachFrom_14 : decode cX0_reachFrom 14 = .ok (.iload_n 3, 1) := by decide +kernel
theorem dX0_reachFrom_15 : decode cX0_reachFrom 15 = .ok (.aaload, 1) := by decide +kernel
theorem dX0_reachFrom_16 : decode cX0_reachFrom 16 = .ok (.astore 4, 2) := by decide +kernel
theorem dX0_reachFrom_18 : decode cX0_reachFrom 18 = .ok (.aload_n 1, 1) := by decide +kernel
theorem dX0_reachFrom_19 : decode cX0_reachFrom 19 = .ok (.ifnull 35, 3) := by decide +kernel
theorem dX0_reachFrom_22 : decode cX0_reachFrom 22 = .ok (.aload 4, 2) := by decide +kernel
theorem dX0_reachFrom_24 : decode cX0_reachFrom 24 = .ok (.ifnull 30, 3) := by decide +kernel
theorem dX0_reachFrom_27 : decode cX0_reachFrom 27 = .ok (.aload_n 0, 1) := by decide +kernel
theorem dX0_reachFrom_28 : decode cX0_reachFrom 28 = .ok (.getfield 17, 3) := by decide +kernel
theorem dX0_reachFrom_31 : decode cX0_reachFrom 31 = .ok (.iload_n 3, 1) := by decide +kernel
theorem dX0_reachFrom_32 : decode cX0_reachFrom 32 = .ok (.aload_n 0, 1) := by decide +kernel
theorem dX0_reachFrom_33 : decode cX0_reachFrom 33 = .ok (.getfield 17, 3) := by decide +kernel
theorem dX0_reachFrom_36 : decode cX0_reachFrom 36 = .ok (.iload_n 3, 1) := by decide +kernel
theorem dX0_reachFrom_37 : decode cX0_reachFrom 37 = .ok (.laload, 1) := by decide +kernel
theorem dX0_reachFrom_38 : decode cX0_reachFrom 38 = .ok (.aload_n 1, 1) := by decide +kernel
theorem dX0_reachFrom_39 : decode cX0_reachFrom 39 = .ok (.getfield 37, 3) := by decide +kernel
theorem dX0_reachFrom_42 : decode cX0_reachFrom 42 = .ok (.aload 4, 2) := by decide +kernel
theorem dX0_reachFrom_44 : decode cX0_reachFrom 44 = .ok (.getfield 37, 3) := by decide +kernel
theorem dX0_reachFrom_47 : decode cX0_reachFrom 47 = .ok (.invokevirtual 41, 3) := by decide +kernel
theorem dX0_reachFrom_50 : decode cX0_reachFrom 50 = .ok (.invokestatic 72, 3) := by decide +kernel
theorem dX0_reachFrom_53 : decode cX0_reachFrom 53 = .ok (.lastore, 1) := by decide +kernel
theorem dX0_reachFrom_54 : decode cX0_reachFrom 54 = .ok (.iinc 3 1, 3) := by decide +kernel
theorem dX0_reachFrom_57 : decode cX0_reachFrom 57 = .ok (.goto (-55), 3) := by decide +kernel
theorem dX0_reachFrom_60 : decode cX0_reachFrom 60 = .ok (.return_, 1) := by decide +kernel
theorem dX0_leastFrom_0 : decode cX0_leastFrom 0 = .ok (.iload_n 1, 1) := by decide +kernel
theorem dX0_leastFrom_1 : decode cX0_leastFrom 1 = .ok (.istore_n 2, 1) := by decide +kernel
theorem dX0_leastFrom_2 : decode cX0_leastFrom 2 = .ok (.iload_n 1, 1) := by decide +kernel
theorem dX0_leastFrom_3 : decode cX0_leastFrom 3 = .ok (.iconst 1, 1) := by decide +kernel
theorem dX0_leastFrom_4 : decode cX0_leastFrom 4 = .ok (.iadd, 1) := by decide +kernel
theorem dX0_leastFrom_5 : decode cX0_leastFrom 5 = .ok (.istore_n 3, 1) := by decide +kernel
theorem dX0_leastFrom_6 : decode cX0_leastFrom 6 = .ok (.iload_n 3, 1) := by decide +kernel
theorem dX0_leastFrom_7 : decode cX0_leastFrom 7 = .ok (.aload_n 0, 1) := by decide +kernel
theorem dX0_leastFrom_8 : decode cX0_leastFrom 8 = .ok (.getfield 21, 3) := by decide +kernel
theorem dX0_leastFrom_11 : decode cX0_leastFrom 11 = .ok (.if_icmp .ge 27, 3) := by decide +kernel
theorem dX0_leastFrom_14 : decode cX0_leastFrom 14 = .ok (.aload_n 0, 1) := by decide +kernel
theorem dX0_leastFrom_15 : decode cX0_leastFrom 15 = .ok (.getfield 17, 3) := by decide +kernel
theorem dX0_leastFrom_18 : decode cX0_leastFrom 18 = .ok (.iload_n 3, 1) := by decide +kernel
theorem dX0_leastFrom_19 : decode cX0_leastFrom 19 = .ok (.laload, 1) := by decide +kernel
theorem dX0_leastFrom_20 : decode cX0_leastFrom 20 = .ok (.aload_n 0, 1) := by decide +kernel
theorem dX0_leastFrom_21 : decode cX0_leastFrom 21 = .ok (.getfield 17, 3) := by decide +kernel
theorem dX0_leastFrom_24 : decode cX0_leastFrom 24 = .ok (.iload_n 2, 1) := by decide +kernel
theorem dX0_leastFrom_25 : decode cX0_leastFrom 25 = .ok (.laload, 1) := by decide +kernel
theorem dX0_leastFrom_26 : decode cX0_leastFrom 26 = .ok (.lcmp, 1) := by decide +kernel
theorem dX0_leastFrom_27 : decode cX0_leastFrom 27 = .ok (.ifCond .ge 5, 3) := by decide +kernel
theorem dX0_leastFrom_30 : decode cX0_leastFrom 30 = .ok (.iload_n 3, 1) := by decide +kernel
theorem dX0_leastFrom_31 : decode cX0_leastFrom 31 = .ok (.istore_n 2, 1) := by decide +kernel
theorem dX0_leastFrom_32 : decode cX0_leastFrom 32 = .ok (.iinc 3 1, 3) := by decide +kernel
theorem dX0_leastFrom_35 : decode cX0_leastFrom 35 = .ok (.goto (-29), 3) := by decide +kernel
theorem dX0_leastFrom_38 : decode cX0_leastFrom 38 = .ok (.iload_n 2, 1) := by decide +kernel
theorem dX0_leastFrom_39 : decode cX0_leastFrom 39 = .ok (.ireturn, 1) := by decide +kernel
theorem dX0_swap_0 : decode cX0_swap 0 = .ok (.aload_n 0, 1) := by decide +kernel
theorem dX0_swap_1 : decode cX0_swap 1 = .ok (.getfield 11, 3) := by decide +kernel
theorem dX0_swap_4 : decode cX0_swap 4 = .ok (.iload_n 1, 1) := by decide +kernel
theorem dX0_swap_5 : decode cX0_swap 5 = .ok (.aaload, 1) := by decide +kernel
theorem dX0_swap_6 : decode cX0_swap 6 = .ok (.astore_n 3, 1) := by decide +kernel
theorem dX0_swap_7 : decode cX0_swap 7 = .ok (.aload_n 0, 1) := by decide +kernel
theorem dX0_swap_8 : decode cX0_swap 8 = .ok (.getfield 11, 3) := by decide +kernel
theorem dX0_swap_11 : decode cX0_swap 11 = .ok (.iload_n 1, 1) := by decide +kernel
theorem dX0_swap_12 : decode cX0_swap 12 = .ok (.aload_n 0, 1) := by decide +kernel
theorem dX0_swap_13 : decode cX0_swap 13 = .ok (.getfield 11, 3) := by decide +kernel
theorem dX0_swap_16 : decode cX0_swap 16 = .ok (.iload_n 2, 1) := by decide +kernel
theorem dX0_swap_17 : decode cX0_swap 17 = .ok (.aaload, 1) := by decide +kernel
theorem dX0_swap_18 : decode cX0_swap 18 = .ok (.aastore, 1) := by decide +kernel
theorem dX0_swap_19 : decode cX0_swap 19 = .ok (.aload_n 0, 1) := by decide +kernel
theorem dX0_swap_20 : decode cX0_swap 20 = .ok (.getfield 11, 3) := by decide +kernel
theorem dX0_swap_23 : decode cX0_swap 23 = .ok (.iload_n 2, 1) := by decide +kernel
theorem dX0_swap_24 : decode cX0_swap 24 = .ok (.aload_n 3, 1) := by decide +kernel
theorem dX0_swap_25 : decode cX0_swap 25 = .ok (.aastore, 1) := by decide +kernel
theorem dX0_swap_26 : decode cX0_swap 26 = .ok (.aload_n 0, 1) := by decide +kernel
theorem dX0_swap_27 : decode cX0_swap 27 = .ok (.getfield 17, 3) := by decide +kernel
theorem dX0_swap_30 : decode cX0_swap 30 = .ok (.iload_n 1, 1) := by decide +kernel
theorem dX0_swap_31 : decode cX0_swap 31 = .ok (.laload, 1) := by decide +kernel
theorem dX0_swap_32 : decode cX0_swap 32 = .ok (.lstore 4, 2) := by decide +kernel
theorem dX0_swap_34 : decode cX0_swap 34 = .ok (.aload_n 0, 1) := by decide +kernel
theorem dX0_swap_35 : decode cX0_swap 35 = .ok (.getfield 17, 3) := by decide +kernel
theorem dX0_swap_38 : decode cX0_swap 38 = .ok (.iload_n 1, 1) := by decide +kernel
theorem dX0_swap_39 : decode cX0_swap 39 = .ok (.aload_n 0, 1) := by decide +kernel
theorem dX0_swap_40 : decode cX0_swap 40 = .ok (.getfield 17, 3) := by decide +kernel
theorem dX0_swap_43 : decode cX0_swap 43 = .ok (.iload_n 2, 1) := by decide +kernel
theorem dX0_swap_44 : decode cX0_swap 44 = .ok (.laload, 1) := by decide +kernel
theorem dX0_swap_45 : decode cX0_swap 45 = .ok (.lastore, 1) := by decide +kernel
theorem dX0_swap_46 : decode cX0_swap 46 = .ok (.aload_n 0, 1) := by decide +kernel
theorem dX0_swap_47 : decode cX0_swap 47 = .ok (.getfield 17, 3) := by decide +kernel
theorem dX0_swap_50 : decode cX0_swap 50 = .ok (.iload_n 2, 1) := by decide +kernel
theorem dX0_swap_51 : decode cX0_swap 51 = .ok (.lload 4, 2) := by decide +kernel
theorem dX0_swap_53 : decode cX0_swap 53 = .ok (.lastore, 1) := by decide +kernel
theorem dX0_swap_54 : decode cX0_swap 54 = .ok (.return_, 1) := by decide +kernel
theorem dX0_partsWithin_0 : decode cX0_partsWithin 0 = .ok (.aload_n 0, 1) := by decide +kernel
theorem dX0_partsWithin_1 : decode cX0_partsWithin 1 = .ok (.getfield 21, 3) := by decide +kernel
theorem dX0_partsWithin_4 : decode cX0_partsWithin 4 = .ok (.ifCond .le 7, 3) := by decide +kernel
theorem dX0_partsWithin_7 : decode cX0_partsWithin 7 = .ok (.iconst 1, 1) := by decide +kernel
theorem dX0_partsWithin_8 : decode cX0_partsWithin 8 = .ok (.goto 4, 3) := by decide +kernel
theorem dX0_partsWithin_11 : decode cX0_partsWithin 11 = .ok (.iconst 0, 1) := by decide +kernel
theorem dX0_partsWithin_12 : decode cX0_partsWithin 12 = .ok (.istore_n 3, 1) := by decide +kernel
theorem dX0_partsWithin_13 : decode cX0_partsWithin 13 = .ok (.iconst 1, 1) := by decide +kernel
theorem dX0_partsWithin_14 : decode cX0_partsWithin 14 = .ok (.istore 4, 2) := by decide +kernel
theorem dX0_partsWithin_16 : decode cX0_partsWithin 16 = .ok (.iload 4, 2) := by decide +kernel
theorem dX0_partsWithin_18 : decode cX0_partsWithin 18 = .ok (.aload_n 0, 1) := by decide +kernel
theorem dX0_partsWithin_19 : decode cX0_partsWithin 19 = .ok (.getfield 21, 3) := by decide +kernel
theorem dX0_partsWithin_22 : decode cX0_partsWithin 22 = .ok (.if_icmp .ge 24, 3) := by decide +kernel
theorem dX0_partsWithin_25 : decode cX0_partsWithin 25 = .ok (.aload_n 0, 1) := by decide +kernel
theorem dX0_partsWithin_26 : decode cX0_partsWithin 26 = .ok (.getfield 17, 3) := by decide +kernel
theorem dX0_partsWithin_29 : decode cX0_partsWithin 29 = .ok (.iload 4, 2) := by decide +kernel
theorem dX0_partsWithin_31 : decode cX0_partsWithin 31 = .ok (.laload, 1) := by decide +kernel
theorem dX0_partsWithin_32 : decode cX0_partsWithin 32 = .ok (.lload_n 1, 1) := by decide +kernel
theorem dX0_partsWithin_33 : decode cX0_partsWithin 33 = .ok (.lcmp, 1) := by decide +kernel
theorem dX0_partsWithin_34 : decode cX0_partsWithin 34 = .ok (.ifCond .le 6, 3) := by decide +kernel
theorem dX0_partsWithin_37 : decode cX0_partsWithin 37 = .ok (.iinc 3 1, 3) := by decide +kernel
theorem dX0_partsWithin_40 : decode cX0_partsWithin 40 = .ok (.iinc 4 1, 3) := by decide +kernel
theorem dX0_partsWithin_43 : decode cX0_partsWithin 43 = .ok (.goto (-27), 3) := by decide +kernel
theorem dX0_partsWithin_46 : decode cX0_partsWithin 46 = .ok (.iload_n 3, 1) := by decide +kernel
theorem dX0_partsWithin_47 : decode cX0_partsWithin 47 = .ok (.ireturn, 1) := by decide +kernel
theorem dX0_sum_0 : decode cX0_sum 0 = .ok (.lconst 0, 1) := by decide +kernel
theorem dX0_sum_1 : decode cX0_sum 1 = .ok (.lstore_n 1, 1) := by decide +kernel
theorem dX0_sum_2 : decode cX0_sum 2 = .ok (.iconst 1, 1) := by decide +kernel
theorem dX0_sum_3 : decode cX0_sum 3 = .ok (.istore_n 3, 1) := by decide +kernel
theorem dX0_sum_4 : decode cX0_sum 4 = .ok (.iload_n 3, 1) := by decide +kernel
theorem dX0_sum_5 : decode cX0_sum 5 = .ok (.aload_n 0, 1) := by decide +kernel
theorem dX0_sum_6 : decode cX0_sum 6 = .ok (.getfield 21, 3) := by decide +kernel
theorem dX0_sum_9 : decode cX0_sum 9 = .ok (.if_icmp .ge 18, 3) := by decide +kernel
theorem dX0_sum_12 : decode cX0_sum 12 = .ok (.lload_n 1, 1) := by decide +kernel
theorem dX0_sum_13 : decode cX0_sum 13 = .ok (.aload_n 0, 1) := by decide +kernel
theorem dX0_sum_14 : decode cX0_sum 14 = .ok (.getfield 17, 3) := by decide +kernel
theorem dX0_sum_17 : decode cX0_sum 17 = .ok (.iload_n 3, 1) := by decide +kernel
theorem dX0_sum_18 : decode cX0_sum 18 = .ok (.laload, 1) := by decide +kernel
theorem dX0_sum_19 : decode cX0_sum 19 = .ok (.ladd, 1) := by decide +kernel
theorem dX0_sum_20 : decode cX0_sum 20 = .ok (.lstore_n 1, 1) := by decide +kernel
theorem dX0_sum_21 : decode cX0_sum 21 = .ok (.iinc 3 1, 3) := by decide +kernel
theorem dX0_sum_24 : decode cX0_sum 24 = .ok (.goto (-20), 3) := by decide +kernel
theorem dX0_sum_27 : decode cX0_sum 27 = .ok (.lload_n 1, 1) := by decide +kernel
theorem dX0_sum_28 : decode cX0_sum 28 = .ok (.lreturn, 1) := by decide +kernel
theorem dX1_init_0 : decode cX1_init 0 = .ok (.aload_n 0, 1) := by decide +kernel
theorem dX1_init_1 : decode cX1_init 1 = .ok (.invokespecial 3, 3) := by decide +kernel
theorem dX1_init_4 : decode cX1_init 4 = .ok (.aload_n 0, 1) := by decide +kernel
theorem dX1_init_5 : decode cX1_init 5 = .ok (.bipush 100, 2) := by decide +kernel
theorem dX1_init_7 : decode cX1_init 7 = .ok (.newarray .int, 2) := by decide +kernel
theorem dX1_init_9 : decode cX1_init 9 = .ok (.putfield 9, 3) := by decide +kernel
theorem dX1_init_12 : decode cX1_init 12 = .ok (.aload_n 0, 1) := by decide +kernel
theorem dX1_init_13 : decode cX1_init 13 = .ok (.bipush 100, 2) := by decide +kernel
theorem dX1_init_15 : decode cX1_init 15 = .ok (.newarray .long, 2) := by decide +kernel
theorem dX1_init_17 : decode cX1_init 17 = .ok (.putfield 15, 3) := by decide +kernel
theorem dX1_init_20 : decode cX1_init 20 = .ok (.return_, 1) := by decide +kernel
theorem dX1_empty_0 : decode cX1_empty 0 = .ok (.aload_n 0, 1) := by decide +kernel
theorem dX1_empty_1 : decode cX1_empty 1 = .ok (.iconst 0, 1) := by decide +kernel
theorem dX1_empty_2 : decode cX1_empty 2 = .ok (.putfield 19, 3) := by decide +kernel
theorem dX1_empty_5 : decode cX1_empty 5 = .ok (.aload_n 0, 1) := by decide +kernel
theorem dX1_empty_6 : decode cX1_empty 6 = .ok (.iconst 0, 1) := by decide +kernel
theorem dX1_empty_7 : decode cX1_empty 7 = .ok (.aload_n 0, 1) := by decide +kernel
theorem dX1_empty_8 : decode cX1_empty 8 = .ok (.getfield 9, 3) := by decide +kernel
theorem dX1_empty_11 : decode cX1_empty 11 = .ok (.arraylength, 1) := by decide +kernel
theorem dX1_empty_12 : decode cX1_empty 12 = .ok (.iload_n 1, 1) := by decide +kernel
theorem dX1_empty_13 : decode cX1_empty 13 = .ok (.invokestatic 23, 3) := by decide +kernel
theorem dX1_empty_16 : decode cX1_empty 16 = .ok (.invokestatic 29, 3) := by decide +kernel
theorem dX1_empty_19 : decode cX1_empty 19 = .ok (.putfield 32, 3) := by decide +kernel
theorem dX1_empty_22 : decode cX1_empty 22 = .ok (.return_, 1) := by decide +kernel
theorem dX1_has_0 : decode cX1_has 0 = .ok (.iload_n 1, 1) := by decide +kernel
theorem dX1_has_1 : decode cX1_has 1 = .ok (.ifCond .lt 15, 3) := by decide +kernel
theorem dX1_has_4 : decode cX1_has 4 = .ok (.iload_n 1, 1) := by decide +kernel
theorem dX1_has_5 : decode cX1_has 5 = .ok (.aload_n 0, 1) := by decide +kernel
theorem dX1_has_6 : decode cX1_has 6 = .ok (.getfield 19, 3) := by decide +kernel
theorem dX1_has_9 : decode cX1_has 9 = .ok (.if_icmp .ge 7, 3) := by decide +kernel
theorem dX1_has_12 : decode cX1_has 12 = .ok (.iconst 1, 1) := by decide +kernel
theorem dX1_has_13 : decode cX1_has 13 = .ok (.goto 4, 3) := by decide +kernel
theorem dX1_has_16 : decode cX1_has 16 = .ok (.iconst 0, 1) := by decide +kernel
theorem dX1_has_17 : decode cX1_has 17 = .ok (.ireturn, 1) := by decide +kernel
theorem dX1_isFull_0 : decode cX1_isFull 0 = .ok (.aload_n 0, 1) := by decide +kernel
theorem dX1_isFull_1 : decode cX1_isFull 1 = .ok (.getfield 19, 3) := by decide +kernel
theorem dX1_isFull_4 : decode cX1_isFull 4 = .ok (.aload_n 0, 1) := by decide +kernel
theorem dX1_isFull_5 : decode cX1_isFull 5 = .ok (.getfield 32, 3) := by decide +kernel
theorem dX1_isFull_8 : decode cX1_isFull 8 = .ok (.if_icmp .lt 7, 3) := by decide +kernel
theorem dX1_isFull_11 : decode cX1_isFull 11 = .ok (.iconst 1, 1) := by decide +kernel
theorem dX1_isFull_12 : decode cX1_isFull 12 = .ok (.goto 4, 3) := by decide +kernel
theorem dX1_isFull_15 : decode cX1_isFull 15 = .ok (.iconst 0, 1) := by decide +kernel
theorem dX1_isFull_16 : decode cX1_isFull 16 = .ok (.ireturn, 1) := by decide +kernel
theorem dX1_offer_0 : decode cX1_offer 0 = .ok (.aload_n 0, 1) := by decide +kernel
theorem dX1_offer_1 : decode cX1_offer 1 = .ok (.getfield 32, 3) := by decide +kernel
theorem dX1_offer_4 : decode cX1_offer 4 = .ok (.iconst 1, 1) := by decide +kernel
theorem dX1_offer_5 : decode cX1_offer 5 = .ok (.if_icmp .lt 25, 3) := by decide +kernel
theorem dX1_offer_8 : decode cX1_offer 8 = .ok (.aload_n 0, 1) := by decide +kernel
theorem dX1_offer_9 : decode cX1_offer 9 = .ok (.invokevirtual 35, 3) := by decide +kernel
theorem dX1_offer_12 : decode cX1_offer 12 = .ok (.ifCond .eq 19, 3) := by decide +kernel
theorem dX1_offer_15 : decode cX1_offer 15 = .ok (.aload_n 0, 1) := by decide +kernel
theorem dX1_offer_16 : decode cX1_offer 16 = .ok (.iload_n 1, 1) := by decide +kernel
theorem dX1_offer_17 : decode cX1_offer 17 = .ok (.lload_n 2, 1) := by decide +kernel
theorem dX1_offer_18 : decode cX1_offer 18 = .ok (.aload_n 0, 1) := by decide +kernel
theorem dX1_offer_19 : decode cX1_offer 19 = .ok (.getfield 32, 3) := by decide +kernel
theorem dX1_offer_22 : decode cX1_offer 22 = .ok (.iconst 1, 1) := by decide +kernel
theorem dX1_offer_23 : decode cX1_offer 23 = .ok (.isub, 1) := by decide +kernel
theorem dX1_offer_24 : decode cX1_offer 24 = .ok (.invokevirtual 39, 3) := by decide +kernel
theorem dX1_offer_27 : decode cX1_offer 27 = .ok (.ifCond .ne 4, 3) := by decide +kernel
theorem dX1_offer_30 : decode cX1_offer 30 = .ok (.return_, 1) := by decide +kernel
theorem dX1_offer_31 : decode cX1_offer 31 = .ok (.aload_n 0, 1) := by decide +kernel
theorem dX1_offer_32 : decode cX1_offer 32 = .ok (.invokevirtual 35, 3) := by decide +kernel
theorem dX1_offer_35 : decode cX1_offer 35 = .ok (.ifCond .eq 12, 3) := by decide +kernel
theorem dX1_offer_38 : decode cX1_offer 38 = .ok (.aload_n 0, 1) := by decide +kernel
theorem dX1_offer_39 : decode cX1_offer 39 = .ok (.getfield 32, 3) := by decide +kernel
theorem dX1_offer_42 : decode cX1_offer 42 = .ok (.iconst 1, 1) := by decide +kernel
theorem dX1_offer_43 : decode cX1_offer 43 = .ok (.isub, 1) := by decide +kernel
theorem dX1_offer_44 : decode cX1_offer 44 = .ok (.goto 7, 3) := by decide +kernel
theorem dX1_offer_47 : decode cX1_offer 47 = .ok (.aload_n 0, 1) := by decide +kernel
theorem dX1_offer_48 : decode cX1_offer 48 = .ok (.getfield 19, 3) := by decide +kernel
theorem dX1_offer_51 : decode cX1_offer 51 = .ok (.istore 4, 2) := by decide +kernel
theorem dX1_offer_53 : decode cX1_offer 53 = .ok (.aload_n 0, 1) := by decide +kernel
theorem dX1_offer_54 : decode cX1_offer 54 = .ok (.iload 4, 2) := by decide +kernel
theorem dX1_offer_56 : decode cX1_offer 56 = .ok (.iconst 1, 1) := by decide +kernel
theorem dX1_offer_57 : decode cX1_offer 57 = .ok (.iadd, 1) := by decide +kernel
theorem dX1_offer_58 : decode cX1_offer 58 = .ok (.putfield 19, 3) := by decide +kernel
theorem dX1_offer_61 : decode cX1_offer 61 = .ok (.iload 4, 2) := by decide +kernel
theorem dX1_offer_63 : decode cX1_offer 63 = .ok (.ifCond .le 54, 3) := by decide +kernel
theorem dX1_offer_66 : decode cX1_offer 66 = .ok (.aload_n 0, 1) := by decide +kernel
theorem dX1_offer_67 : decode cX1_offer 67 = .ok (.iload_n 1, 1) := by decide +kernel
theorem dX1_offer_68 : decode cX1_offer 68 = .ok (.lload_n 2, 1) := by decide +kernel
theorem dX1_offer_69 : decode cX1_offer 69 = .ok (.iload 4, 2) := by decide +kernel
theorem dX1_offer_71 : decode cX1_offer 71 = .ok (.iconst 1, 1) := by decide +kernel
theorem dX1_offer_72 : decode cX1_offer 72 = .ok (.isub, 1) := by decide +kernel
theorem dX1_offer_73 : decode cX1_offer 73 = .ok (.invokevirtual 39, 3) := by decide +kernel
theorem dX1_offer_76 : decode cX1_offer 76 = .ok (.ifCond .eq 41, 3) := by decide +kernel
theorem dX1_offer_79 : decode cX1_offer 79 = .ok (.aload_n 0, 1) := by decide +kernel
theorem dX1_offer_80 : decode cX1_offer 80 = .ok (.getfield 9, 3) := by decide +kernel
theorem dX1_offer_83 : decode cX1_offer 83 = .ok (.iload 4, 2) := by decide +kernel
theorem dX1_offer_85 : decode cX1_offer 85 = .ok (.aload_n 0, 1) := by decide +kernel
theorem dX1_offer_86 : decode cX1_offer 86 = .ok (.getfield 9, 3) := by decide +kernel
theorem dX1_offer_89 : decode cX1_offer 89 = .ok (.iload 4, 2) := by decide +kernel
theorem dX1_offer_91 : decode cX1_offer 91 = .ok (.iconst 1, 1) := by decide +kernel
theorem dX1_offer_92 : decode cX1_offer 92 = .ok (.isub, 1) := by decide +kernel
theorem dX1_offer_93 : decode cX1_offer 93 = .ok (.iaload, 1) := by decide +kernel
theorem dX1_offer_94 : decode cX1_offer 94 = .ok (.iastore, 1) := by decide +kernel
theorem dX1_offer_95 : decode cX1_offer 95 = .ok (.aload_n 0, 1) := by decide +kernel
theorem dX1_offer_96 : decode cX1_offer 96 = .ok (.getfield 15, 3) := by decide +kernel
theorem dX1_offer_99 : decode cX1_offer 99 = .ok (.iload 4, 2) := by decide +kernel
theorem dX1_offer_101 : decode cX1_offer 101 = .ok (.aload_n 0, 1) := by decide +kernel
theorem dX1_offer_102 : decode cX1_offer 102 = .ok (.getfield 15, 3) := by decide +kernel
theorem dX1_offer_105 : decode cX1_offer 105 = .ok (.iload 4, 2) := by decide +kernel
theorem dX1_offer_107 : decode cX1_offer 107 = .ok (.iconst 1, 1) := by decide +kernel
theorem dX1_offer_108 : decode cX1_offer 108 = .ok (.isub, 1) := by decide +kernel
theorem dX1_offer_109 : decode cX1_offer 109 = .ok (.laload, 1) := by decide +kernel
theorem dX1_offer_110 : decode cX1_offer 110 = .ok (.lastore, 1) := by decide +kernel
theorem dX1_offer_111 : decode cX1_offer 111 = .ok (.iinc 4 (-1), 3) := by decide +kernel
theorem dX1_offer_114 : decode cX1_offer 114 = .ok (.goto (-53), 3) := by decide +kernel
theorem dX1_offer_117 : decode cX1_offer 117 = .ok (.aload_n 0, 1) := by decide +kernel
theorem dX1_offer_118 : decode cX1_offer 118 = .ok (.getfield 9, 3) := by decide +kernel
theorem dX1_offer_121 : decode cX1_offer 121 = .ok (.iload 4, 2) := by decide +kernel
theorem dX1_offer_123 : decode cX1_offer 123 = .ok (.iload_n 1, 1) := by decide +kernel
theorem dX1_offer_124 : decode cX1_offer 124 = .ok (.iastore, 1) := by decide +kernel
theorem dX1_offer_125 : decode cX1_offer 125 = .ok (.aload_n 0, 1) := by decide +kernel
theorem dX1_offer_126 : decode cX1_offer 126 = .ok (.getfield 15, 3) := by decide +kernel
theorem dX1_offer_129 : decode cX1_offer 129 = .ok (.iload 4, 2) := by decide +kernel
theorem dX1_offer_131 : decode cX1_offer 131 = .ok (.lload_n 2, 1) := by decide +kernel
theorem dX1_offer_132 : decode cX1_offer 132 = .ok (.lastore, 1) := by decide +kernel
theorem dX1_offer_133 : decode cX1_offer 133 = .ok (.return_, 1) := by decide +kernel
theorem dX1_shutsOut_0 : decode cX1_shutsOut 0 = .ok (.aload_n 0, 1) := by decide +kernel
theorem dX1_shutsOut_1 : decode cX1_shutsOut 1 = .ok (.invokevirtual 35, 3) := by decide +kernel
theorem dX1_shutsOut_4 : decode cX1_shutsOut 4 = .ok (.ifCond .eq 31, 3) := by decide +kernel
theorem dX1_shutsOut_7 : decode cX1_shutsOut 7 = .ok (.aload_n 0, 1) := by decide +kernel
theorem dX1_shutsOut_8 : decode cX1_shutsOut 8 = .ok (.getfield 19, 3) := by decide +kernel
theorem dX1_shutsOut_11 : decode cX1_shutsOut 11 = .ok (.iconst 1, 1) := by decide +kernel
theorem dX1_shutsOut_12 : decode cX1_shutsOut 12 = .ok (.if_icmp .lt 19, 3) := by decide +kernel
theorem dX1_shutsOut_15 : decode cX1_shutsOut 15 = .ok (.lload_n 1, 1) := by decide +kernel
theorem dX1_shutsOut_16 : decode cX1_shutsOut 16 = .ok (.aload_n 0, 1) := by decide +kernel
theorem dX1_shutsOut_17 : decode cX1_shutsOut 17 = .ok (.getfield 15, 3) := by decide +kernel
theorem dX1_shutsOut_20 : decode cX1_shutsOut 20 = .ok (.aload_n 0, 1) := by decide +kernel
theorem dX1_shutsOut_21 : decode cX1_shutsOut 21 = .ok (.getfield 19, 3) := by decide +kernel
theorem dX1_shutsOut_24 : decode cX1_shutsOut 24 = .ok (.iconst 1, 1) := by decide +kernel
theorem dX1_shutsOut_25 : decode cX1_shutsOut 25 = .ok (.isub, 1) := by decide +kernel
theorem dX1_shutsOut_26 : decode cX1_shutsOut 26 = .ok (.laload, 1) := by decide +kernel
theorem dX1_shutsOut_27 : decode cX1_shutsOut 27 = .ok (.lcmp, 1) := by decide +kernel
theorem dX1_shutsOut_28 : decode cX1_shutsOut 28 = .ok (.ifCond .le 7, 3) := by decide +kernel
theorem dX1_shutsOut_31 : decode cX1_shutsOut 31 = .ok (.iconst 1, 1) := by decide +kernel
theorem dX1_shutsOut_32 : decode cX1_shutsOut 32 = .ok (.goto 4, 3) := by decide +kernel
theorem dX1_shutsOut_35 : decode cX1_shutsOut 35 = .ok (.iconst 0, 1) := by decide +kernel
theorem dX1_shutsOut_36 : decode cX1_shutsOut 36 = .ok (.ireturn, 1) := by decide +kernel
theorem dX1_isAhead_0 : decode cX1_isAhead 0 = .ok (.lload_n 2, 1) := by decide +kernel
theorem dX1_isAhead_1 : decode cX1_isAhead 1 = .ok (.aload_n 0, 1) := by decide +kernel
theorem dX1_isAhead_2 : decode cX1_isAhead 2 = .ok (.getfield 15, 3) := by decide +kernel
theorem dX1_isAhead_5 : decode cX1_isAhead 5 = .ok (.iload 4, 2) := by decide +kernel
theorem dX1_isAhead_7 : decode cX1_isAhead 7 = .ok (.laload, 1) := by decide +kernel
theorem dX1_isAhead_8 : decode cX1_isAhead 8 = .ok (.lcmp, 1) := by decide +kernel
theorem dX1_isAhead_9 : decode cX1_isAhead 9 = .ok (.ifCond .lt 26, 3) := by decide +kernel
theorem dX1_isAhead_12 : decode cX1_isAhead 12 = .ok (.lload_n 2, 1) := by decide +kernel
theorem dX1_isAhead_13 : decode cX1_isAhead 13 = .ok (.aload_n 0, 1) := by decide +kernel
theorem dX1_isAhead_14 : decode cX1_isAhead 14 = .ok (.getfield 15, 3) := by decide +kernel
theorem dX1_isAhead_17 : decode cX1_isAhead 17 = .ok (.iload 4, 2) := by decide +kernel
theorem dX1_isAhead_19 : decode cX1_isAhead 19 = .ok (.laload, 1) := by decide +kernel
theorem dX1_isAhead_20 : decode cX1_isAhead 20 = .ok (.lcmp, 1) := by decide +kernel
theorem dX1_isAhead_21 : decode cX1_isAhead 21 = .ok (.ifCond .ne 18, 3) := by decide +kernel
theorem dX1_isAhead_24 : decode cX1_isAhead 24 = .ok (.iload_n 1, 1) := by decide +kernel
theorem dX1_isAhead_25 : decode cX1_isAhead 25 = .ok (.aload_n 0, 1) := by decide +kernel
theorem dX1_isAhead_26 : decode cX1_isAhead 26 = .ok (.getfield 9, 3) := by decide +kernel
theorem dX1_isAhead_29 : decode cX1_isAhead 29 = .ok (.iload 4, 2) := by decide +kernel
theorem dX1_isAhead_31 : decode cX1_isAhead 31 = .ok (.iaload, 1) := by decide +kernel
theorem dX1_isAhead_32 : decode cX1_isAhead 32 = .ok (.if_icmp .ge 7, 3) := by decide +kernel
theorem dX1_isAhead_35 : decode cX1_isAhead 35 = .ok (.iconst 1, 1) := by decide +kernel
theorem dX1_isAhead_36 : decode cX1_isAhead 36 = .ok (.goto 4, 3) := by decide +kernel
theorem dX1_isAhead_39 : decode cX1_isAhead 39 = .ok (.iconst 0, 1) := by decide +kernel
theorem dX1_isAhead_40 : decode cX1_isAhead 40 = .ok (.ireturn, 1) := by decide +kernel
theorem dX2_init_0 : decode cX2_init 0 = .ok (.aload_n 0, 1) := by decide +kernel
theorem dX2_init_1 : decode cX2_init 1 = .ok (.invokespecial 1, 3) := by decide +kernel
theorem dX2_init_4 : decode cX2_init 4 = .ok (.aload_n 0, 1) := by decide +kernel
theorem dX2_init_5 : decode cX2_init 5 = .ok (.iload_n 1, 1) := by decide +kernel
theorem dX2_init_6 : decode cX2_init 6 = .ok (.putfield 7, 3) := by decide +kernel
theorem dX2_init_9 : decode cX2_init 9 = .ok (.aload_n 0, 1) := by decide +kernel
theorem dX2_init_10 : decode cX2_init 10 = .ok (.aload_n 2, 1) := by decide +kernel
theorem dX2_init_11 : decode cX2_init 11 = .ok (.putfield 13, 3) := by decide +kernel
theorem dX2_init_14 : decode cX2_init 14 = .ok (.aload_n 0, 1) := by decide +kernel
theorem dX2_init_15 : decode cX2_init 15 = .ok (.iconst 1, 1) := by decide +kernel
theorem dX2_init_16 : decode cX2_init 16 = .ok (.putfield 17, 3) := by decide +kernel
theorem dX2_init_19 : decode cX2_init 19 = .ok (.return_, 1) := by decide +kernel
theorem dX2_isLess_0 : decode cX2_isLess 0 = .ok (.aload_n 0, 1) := by decide +kernel
theorem dX2_isLess_1 : decode cX2_isLess 1 = .ok (.getfield 13, 3) := by decide +kernel
theorem dX2_isLess_4 : decode cX2_isLess 4 = .ok (.iload_n 2, 1) := by decide +kernel
theorem dX2_isLess_5 : decode cX2_isLess 5 = .ok (.invokevirtual 20, 3) := by decide +kernel
theorem dX2_isLess_8 : decode cX2_isLess 8 = .ok (.istore_n 3, 1) := by decide +kernel
theorem dX2_isLess_9 : decode cX2_isLess 9 = .ok (.aload_n 1, 1) := by decide +kernel
theorem dX2_isLess_10 : decode cX2_isLess 10 = .ok (.getfield 13, 3) := by decide +kernel
theorem dX2_isLess_13 : decode cX2_isLess 13 = .ok (.iload_n 2, 1) := by decide +kernel
theorem dX2_isLess_14 : decode cX2_isLess 14 = .ok (.invokevirtual 20, 3) := by decide +kernel
theorem dX2_isLess_17 : decode cX2_isLess 17 = .ok (.istore 4, 2) := by decide +kernel
theorem dX2_isLess_19 : decode cX2_isLess 19 = .ok (.iload_n 3, 1) := by decide +kernel
theorem dX2_isLess_20 : decode cX2_isLess 20 = .ok (.iload 4, 2) := by decide +kernel
theorem dX2_isLess_22 : decode cX2_isLess 22 = .ok (.if_icmp .lt 20, 3) := by decide +kernel
theorem dX2_isLess_25 : decode cX2_isLess 25 = .ok (.iload_n 3, 1) := by decide +kernel
theorem dX2_isLess_26 : decode cX2_isLess 26 = .ok (.iload 4, 2) := by decide +kernel
theorem dX2_isLess_28 : decode cX2_isLess 28 = .ok (.if_icmp .ne 18, 3) := by decide +kernel
theorem dX2_isLess_31 : decode cX2_isLess 31 = .ok (.aload_n 0, 1) := by decide +kernel
theorem dX2_isLess_32 : decode cX2_isLess 32 = .ok (.getfield 7, 3) := by decide +kernel
theorem dX2_isLess_35 : decode cX2_isLess 35 = .ok (.aload_n 1, 1) := by decide +kernel
theorem dX2_isLess_36 : decode cX2_isLess 36 = .ok (.getfield 7, 3) := by decide +kernel
theorem dX2_isLess_39 : decode cX2_isLess 39 = .ok (.if_icmp .ge 7, 3) := by decide +kernel
theorem dX2_isLess_42 : decode cX2_isLess 42 = .ok (.iconst 1, 1) := by decide +kernel
theorem dX2_isLess_43 : decode cX2_isLess 43 = .ok (.goto 4, 3) := by decide +kernel
theorem dX2_isLess_46 : decode cX2_isLess 46 = .ok (.iconst 0, 1) := by decide +kernel
theorem dX2_isLess_47 : decode cX2_isLess 47 = .ok (.ireturn, 1) := by decide +kernel
theorem dX2_sideOf_0 : decode cX2_sideOf 0 = .ok (.aload_n 1, 1) := by decide +kernel
theorem dX2_sideOf_1 : decode cX2_sideOf 1 = .ok (.aload_n 0, 1) := by decide +kernel
theorem dX2_sideOf_2 : decode cX2_sideOf 2 = .ok (.aload_n 0, 1) := by decide +kernel
theorem dX2_sideOf_3 : decode cX2_sideOf 3 = .ok (.getfield 26, 3) := by decide +kernel
theorem dX2_sideOf_6 : decode cX2_sideOf 6 = .ok (.invokevirtual 29, 3) := by decide +kernel
theorem dX2_sideOf_9 : decode cX2_sideOf 9 = .ok (.ifCond .eq 10, 3) := by decide +kernel
theorem dX2_sideOf_12 : decode cX2_sideOf 12 = .ok (.aload_n 0, 1) := by decide +kernel
theorem dX2_sideOf_13 : decode cX2_sideOf 13 = .ok (.getfield 33, 3) := by decide +kernel
theorem dX2_sideOf_16 : decode cX2_sideOf 16 = .ok (.goto 7, 3) := by decide +kernel
theorem dX2_sideOf_19 : decode cX2_sideOf 19 = .ok (.aload_n 0, 1) := by decide +kernel
theorem dX2_sideOf_20 : decode cX2_sideOf 20 = .ok (.getfield 37, 3) := by decide +kernel
theorem dX2_sideOf_23 : decode cX2_sideOf 23 = .ok (.areturn, 1) := by decide +kernel
theorem dX2_leans_0 : decode cX2_leans 0 = .ok (.aload_n 0, 1) := by decide +kernel
theorem dX2_leans_1 : decode cX2_leans 1 = .ok (.getfield 33, 3) := by decide +kernel
theorem dX2_leans_4 : decode cX2_leans 4 = .ok (.invokestatic 40, 3) := by decide +kernel
theorem dX2_leans_7 : decode cX2_leans 7 = .ok (.aload_n 0, 1) := by decide +kernel
theorem dX2_leans_8 : decode cX2_leans 8 = .ok (.getfield 37, 3) := by decide +kernel
theorem dX2_leans_11 : decode cX2_leans 11 = .ok (.invokestatic 40, 3) := by decide +kernel
theorem dX2_leans_14 : decode cX2_leans 14 = .ok (.invokestatic 44, 3) := by decide +kernel
theorem dX2_leans_17 : decode cX2_leans 17 = .ok (.iconst 3, 1) := by decide +kernel
theorem dX2_leans_18 : decode cX2_leans 18 = .ok (.imul, 1) := by decide +kernel
theorem dX2_leans_19 : decode cX2_leans 19 = .ok (.aload_n 0, 1) := by decide +kernel
theorem dX2_leans_20 : decode cX2_leans 20 = .ok (.getfield 17, 3) := by decide +kernel
theorem dX2_leans_23 : decode cX2_leans 23 = .ok (.iconst 2, 1) := by decide +kernel
theorem dX2_leans_24 : decode cX2_leans 24 = .ok (.imul, 1) := by decide +kernel
theorem dX2_leans_25 : decode cX2_leans 25 = .ok (.if_icmp .le 7, 3) := by decide +kernel
theorem dX2_leans_28 : decode cX2_leans 28 = .ok (.iconst 1, 1) := by decide +kernel
theorem dX2_leans_29 : decode cX2_leans 29 = .ok (.goto 4, 3) := by decide +kernel
theorem dX2_leans_32 : decode cX2_leans 32 = .ok (.iconst 0, 1) := by decide +kernel
theorem dX2_leans_33 : decode cX2_leans 33 = .ok (.ireturn, 1) := by decide +kernel
theorem dX2_sizeOf_0 : decode cX2_sizeOf 0 = .ok (.aload_n 0, 1) := by decide +kernel
theorem dX2_sizeOf_1 : decode cX2_sizeOf 1 = .ok (.ifnonnull 7, 3) := by decide +kernel
theorem dX2_sizeOf_4 : decode cX2_sizeOf 4 = .ok (.iconst 0, 1) := by decide +kernel
theorem dX2_sizeOf_5 : decode cX2_sizeOf 5 = .ok (.goto 7, 3) := by decide +kernel
theorem dX2_sizeOf_8 : decode cX2_sizeOf 8 = .ok (.aload_n 0, 1) := by decide +kernel
theorem dX2_sizeOf_9 : decode cX2_sizeOf 9 = .ok (.getfield 17, 3) := by decide +kernel
theorem dX2_sizeOf_12 : decode cX2_sizeOf 12 = .ok (.ireturn, 1) := by decide +kernel
theorem dX3_init_0 : decode cX3_init 0 = .ok (.aload_n 0, 1) := by decide +kernel
theorem dX3_init_1 : decode cX3_init 1 = .ok (.invokespecial 1, 3) := by decide +kernel
theorem dX3_init_4 : decode cX3_init 4 = .ok (.aload_n 0, 1) := by decide +kernel
theorem dX3_init_5 : decode cX3_init 5 = .ok (.iload_n 2, 1) := by decide +kernel
theorem dX3_init_6 : decode cX3_init 6 = .ok (.putfield 7, 3) := by decide +kernel
theorem dX3_init_9 : decode cX3_init 9 = .ok (.aload_n 0, 1) := by decide +kernel
theorem dX3_init_10 : decode cX3_init 10 = .ok (.iload_n 1, 1) := by decide +kernel
theorem dX3_init_11 : decode cX3_init 11 = .ok (.iconst 1, 1) := by decide +kernel
theorem dX3_init_12 : decode cX3_init 12 = .ok (.if_icmp .le 7, 3) := by decide +kernel
theorem dX3_init_15 : decode cX3_init 15 = .ok (.iload_n 3, 1) := by decide +kernel
theorem dX3_init_16 : decode cX3_init 16 = .ok (.goto 4, 3) := by decide +kernel
theorem dX3_init_19 : decode cX3_init 19 = .ok (.iconst 0, 1) := by decide +kernel
theorem dX3_init_20 : decode cX3_init 20 = .ok (.putfield 13, 3) := by decide +kernel
theorem dX3_init_23 : decode cX3_init 23 = .ok (.aload_n 0, 1) := by decide +kernel
theorem dX3_init_24 : decode cX3_init 24 = .ok (.iload_n 1, 1) := by decide +kernel
theorem dX3_init_25 : decode cX3_init 25 = .ok (.iconst 2, 1) := by decide +kernel
theorem dX3_init_26 : decode cX3_init 26 = .ok (.if_icmp .le 8, 3) := by decide +kernel
theorem dX3_init_29 : decode cX3_init 29 = .ok (.iload 4, 2) := by decide +kernel
theorem dX3_init_31 : decode cX3_init 31 = .ok (.goto 4, 3) := by decide +kernel
theorem dX3_init_34 : decode cX3_init 34 = .ok (.iconst 0, 1) := by decide +kernel
theorem dX3_init_35 : decode cX3_init 35 = .ok (.putfield 16, 3) := by decide +kernel
theorem dX3_init_38 : decode cX3_init 38 = .ok (.aload_n 0, 1) := by decide +kernel
theorem dX3_init_39 : decode cX3_init 39 = .ok (.iload_n 1, 1) := by decide +kernel
theorem dX3_init_40 : decode cX3_init 40 = .ok (.iconst 3, 1) := by decide +kernel
theorem dX3_init_41 : decode cX3_init 41 = .ok (.if_icmp .le 8, 3) := by decide +kernel
theorem dX3_init_44 : decode cX3_init 44 = .ok (.iload 5, 2) := by decide +kernel
theorem dX3_init_46 : decode cX3_init 46 = .ok (.goto 4, 3) := by decide +kernel
theorem dX3_init_49 : decode cX3_init 49 = .ok (.iconst 0, 1) := by decide +kernel
theorem dX3_init_50 : decode cX3_init 50 = .ok (.putfield 19, 3) := by decide +kernel
theorem dX3_init_53 : decode cX3_init 53 = .ok (.return_, 1) := by decide +kernel
theorem dX3_number_0 : decode cX3_number 0 = .ok (.iload_n 1, 1) := by decide +kernel
theorem dX3_number_1 : decode cX3_number 1 = .ok (.tableswitch 42 0 2 #[27, 32, 37], 27) := by decide +kernel
theorem dX3_number_28 : decode cX3_number 28 = .ok (.aload_n 0, 1) := by decide +kernel
theorem dX3_number_29 : decode cX3_number 29 = .ok (.getfield 7, 3) := by decide +kernel
theorem dX3_number_32 : decode cX3_number 32 = .ok (.ireturn, 1) := by decide +kernel
theorem dX3_number_33 : decode cX3_number 33 = .ok (.aload_n 0, 1) := by decide +kernel
theorem dX3_number_34 : decode cX3_number 34 = .ok (.getfield 13, 3) := by decide +kernel
theorem dX3_number_37 : decode cX3_number 37 = .ok (.ireturn, 1) := by decide +kernel
theorem dX3_number_38 : decode cX3_number 38 = .ok (.aload_n 0, 1) := by decide +kernel
theorem dX3_number_39 : decode cX3_number 39 = .ok (.getfield 16, 3) := by decide +kernel
theorem dX3_number_42 : decode cX3_number 42 = .ok (.ireturn, 1) := by decide +kernel
theorem dX3_number_43 : decode cX3_number 43 = .ok (.aload_n 0, 1) := by decide +kernel
theorem dX3_number_44 : decode cX3_number 44 = .ok (.getfield 19, 3) := by decide +kernel
theorem dX3_number_47 : decode cX3_number 47 = .ok (.ireturn, 1) := by decide +kernel
theorem dX3_distanceTo_0 : decode cX3_distanceTo 0 = .ok (.aload_n 0, 1) := by decide +kernel
theorem dX3_distanceTo_1 : decode cX3_distanceTo 1 = .ok (.getfield 7, 3) := by decide +kernel
theorem dX3_distanceTo_4 : decode cX3_distanceTo 4 = .ok (.aload_n 1, 1) := by decide +kernel
theorem dX3_distanceTo_5 : decode cX3_distanceTo 5 = .ok (.getfield 7, 3) := by decide +kernel
theorem dX3_distanceTo_8 : decode cX3_distanceTo 8 = .ok (.isub, 1) := by decide +kernel
theorem dX3_distanceTo_9 : decode cX3_distanceTo 9 = .ok (.i2l, 1) := by decide +kernel
theorem dX3_distanceTo_10 : decode cX3_distanceTo 10 = .ok (.invokestatic 22, 3) := by decide +kernel
theorem dX3_distanceTo_13 : decode cX3_distanceTo 13 = .ok (.aload_n 0, 1) := by decide +kernel
theorem dX3_distanceTo_14 : decode cX3_distanceTo 14 = .ok (.getfield 13, 3) := by decide +kernel
theorem dX3_distanceTo_17 : decode cX3_distanceTo 17 = .ok (.aload_n 1, 1) := by decide +kernel
theorem dX3_distanceTo_18 : decode cX3_distanceTo 18 = .ok (.getfield 13, 3) := by decide +kernel
theorem dX3_distanceTo_21 : decode cX3_distanceTo 21 = .ok (.isub, 1) := by decide +kernel
theorem dX3_distanceTo_22 : decode cX3_distanceTo 22 = .ok (.i2l, 1) := by decide +kernel
theorem dX3_distanceTo_23 : decode cX3_distanceTo 23 = .ok (.invokestatic 22, 3) := by decide +kernel
theorem dX3_distanceTo_26 : decode cX3_distanceTo 26 = .ok (.ladd, 1) := by decide +kernel
theorem dX3_distanceTo_27 : decode cX3_distanceTo 27 = .ok (.aload_n 0, 1) := by decide +kernel
theorem dX3_distanceTo_28 : decode cX3_distanceTo 28 = .ok (.getfield 16, 3) := by decide +kernel
theorem dX3_distanceTo_31 : decode cX3_distanceTo 31 = .ok (.aload_n 1, 1) := by decide +kernel
theorem dX3_distanceTo_32 : decode cX3_distanceTo 32 = .ok (.getfield 16, 3) := by decide +kernel
theorem dX3_distanceTo_35 : decode cX3_distanceTo 35 = .ok (.isub, 1) := by decide +kernel
theorem dX3_distanceTo_36 : decode cX3_distanceTo 36 = .ok (.i2l, 1) := by decide +kernel
theorem dX3_distanceTo_37 : decode cX3_distanceTo 37 = .ok (.invokestatic 22, 3) := by decide +kernel
theorem dX3_distanceTo_40 : decode cX3_distanceTo 40 = .ok (.ladd, 1) := by decide +kernel
theorem dX3_distanceTo_41 : decode cX3_distanceTo 41 = .ok (.aload_n 0, 1) := by decide +kernel
theorem dX3_distanceTo_42 : decode cX3_distanceTo 42 = .ok (.getfield 19, 3) := by decide +kernel
theorem dX3_distanceTo_45 : decode cX3_distanceTo 45 = .ok (.aload_n 1, 1) := by decide +kernel
theorem dX3_distanceTo_46 : decode cX3_distanceTo 46 = .ok (.getfield 19, 3) := by decide +kernel
theorem dX3_distanceTo_49 : decode cX3_distanceTo 49 = .ok (.isub, 1) := by decide +kernel
theorem dX3_distanceTo_50 : decode cX3_distanceTo 50 = .ok (.i2l, 1) := by decide +kernel
theorem dX3_distanceTo_51 : decode cX3_distanceTo 51 = .ok (.invokestatic 22, 3) := by decide +kernel
theorem dX3_distanceTo_54 : decode cX3_distanceTo 54 = .ok (.ladd, 1) := by decide +kernel
theorem dX3_distanceTo_55 : decode cX3_distanceTo 55 = .ok (.lreturn, 1) := by decide +kernel
theorem dX3_isBetween_0 : decode cX3_isBetween 0 = .ok (.aload_n 0, 1) := by decide +kernel
theorem dX3_isBetween_1 : decode cX3_isBetween 1 = .ok (.iload_n 1, 1) := by decide +kernel
theorem dX3_isBetween_2 : decode cX3_isBetween 2 = .ok (.invokevirtual 26, 3) := by decide +kernel
theorem dX3_isBetween_5 : decode cX3_isBetween 5 = .ok (.istore 4, 2) := by decide +kernel
theorem dX3_isBetween_7 : decode cX3_isBetween 7 = .ok (.iload 4, 2) := by decide +kernel
theorem dX3_isBetween_9 : decode cX3_isBetween 9 = .ok (.iload_n 2, 1) := by decide +kernel
theorem dX3_isBetween_10 : decode cX3_isBetween 10 = .ok (.if_icmp .lt 13, 3) := by decide +kernel
theorem dX3_isBetween_13 : decode cX3_isBetween 13 = .ok (.iload 4, 2) := by decide +kernel
theorem dX3_isBetween_15 : decode cX3_isBetween 15 = .ok (.iload_n 3, 1) := by decide +kernel
theorem dX3_isBetween_16 : decode cX3_isBetween 16 = .ok (.if_icmp .gt 7, 3) := by decide +kernel
theorem dX3_isBetween_19 : decode cX3_isBetween 19 = .ok (.iconst 1, 1) := by decide +kernel
theorem dX3_isBetween_20 : decode cX3_isBetween 20 = .ok (.goto 4, 3) := by decide +kernel
theorem dX3_isBetween_23 : decode cX3_isBetween 23 = .ok (.iconst 0, 1) := by decide +kernel
theorem dX3_isBetween_24 : decode cX3_isBetween 24 = .ok (.ireturn, 1) := by decide +kernel
theorem dX3_square_0 : decode cX3_square 0 = .ok (.lload_n 0, 1) := by decide +kernel
theorem dX3_square_1 : decode cX3_square 1 = .ok (.lload_n 0, 1) := by decide +kernel
theorem dX3_square_2 : decode cX3_square 2 = .ok (.lmul, 1) := by decide +kernel
theorem dX3_square_3 : decode cX3_square 3 = .ok (.lreturn, 1) := by decide +kernel
theorem dX4_init_0 : decode cX4_init 0 = .ok (.aload_n 0, 1) := by decide +kernel
theorem dX4_init_1 : decode cX4_init 1 = .ok (.invokespecial 3, 3) := by decide +kernel
theorem dX4_init_4 : decode cX4_init 4 = .ok (.aload_n 0, 1) := by decide +kernel
theorem dX4_init_5 : decode cX4_init 5 = .ok (.aload_n 1, 1) := by decide +kernel
theorem dX4_init_6 : decode cX4_init 6 = .ok (.putfield 9, 3) := by decide +kernel
theorem dX4_init_9 : decode cX4_init 9 = .ok (.aload_n 0, 1) := by decide +kernel
theorem dX4_init_10 : decode cX4_init 10 = .ok (.aload_n 2, 1) := by decide +kernel
theorem dX4_init_11 : decode cX4_init 11 = .ok (.putfield 15, 3) := by decide +kernel
theorem dX4_init_14 : decode cX4_init 14 = .ok (.return_, 1) := by decide +kernel
theorem dX4_start_0 : decode cX4_start 0 = .ok (.aload_n 0, 1) := by decide +kernel
theorem dX4_start_1 : decode cX4_start 1 = .ok (.iconst 0, 1) := by decide +kernel
theorem dX4_start_2 : decode cX4_start 2 = .ok (.putfield 19, 3) := by decide +kernel
theorem dX4_start_5 : decode cX4_start 5 = .ok (.aload_n 0, 1) := by decide +kernel
theorem dX4_start_6 : decode cX4_start 6 = .ok (.aload_n 1, 1) := by decide +kernel
theorem dX4_start_7 : decode cX4_start 7 = .ok (.iconst 0, 1) := by decide +kernel
theorem dX4_start_8 : decode cX4_start 8 = .ok (.invokevirtual 23, 3) := by decide +kernel
theorem dX4_start_11 : decode cX4_start 11 = .ok (.return_, 1) := by decide +kernel
theorem dX4_lookAt_0 : decode cX4_lookAt 0 = .ok (.aload_n 1, 1) := by decide +kernel
theorem dX4_lookAt_1 : decode cX4_lookAt 1 = .ok (.ifnull 9, 3) := by decide +kernel
theorem dX4_lookAt_4 : decode cX4_lookAt 4 = .ok (.iload_n 2, 1) := by decide +kernel
theorem dX4_lookAt_5 : decode cX4_lookAt 5 = .ok (.bipush 120, 2) := by decide +kernel
theorem dX4_lookAt_7 : decode cX4_lookAt 7 = .ok (.if_icmp .lt 4, 3) := by decide +kernel
theorem dX4_lookAt_10 : decode cX4_lookAt 10 = .ok (.return_, 1) := by decide +kernel
theorem dX4_lookAt_11 : decode cX4_lookAt 11 = .ok (.aload_n 0, 1) := by decide +kernel
theorem dX4_lookAt_12 : decode cX4_lookAt 12 = .ok (.dup, 1) := by decide +kernel
theorem dX4_lookAt_13 : decode cX4_lookAt 13 = .ok (.getfield 19, 3) := by decide +kernel
theorem dX4_lookAt_16 : decode cX4_lookAt 16 = .ok (.iconst 1, 1) := by decide +kernel
theorem dX4_lookAt_17 : decode cX4_lookAt 17 = .ok (.iadd, 1) := by decide +kernel
theorem dX4_lookAt_18 : decode cX4_lookAt 18 = .ok (.putfield 19, 3) := by decide +kernel
theorem dX4_lookAt_21 : decode cX4_lookAt 21 = .ok (.aload_n 1, 1) := by decide +kernel
theorem dX4_lookAt_22 : decode cX4_lookAt 22 = .ok (.getfield 27, 3) := by decide +kernel
theorem dX4_lookAt_25 : decode cX4_lookAt 25 = .ok (.ifCond .ne 25, 3) := by decide +kernel
theorem dX4_lookAt_28 : decode cX4_lookAt 28 = .ok (.aload_n 0, 1) := by decide +kernel
theorem dX4_lookAt_29 : decode cX4_lookAt 29 = .ok (.getfield 15, 3) := by decide +kernel
theorem dX4_lookAt_32 : decode cX4_lookAt 32 = .ok (.aload_n 1, 1) := by decide +kernel
theorem dX4_lookAt_33 : decode cX4_lookAt 33 = .ok (.getfield 33, 3) := by decide +kernel
theorem dX4_lookAt_36 : decode cX4_lookAt 36 = .ok (.aload_n 0, 1) := by decide +kernel
theorem dX4_lookAt_37 : decode cX4_lookAt 37 = .ok (.getfield 9, 3) := by decide +kernel
theorem dX4_lookAt_40 : decode cX4_lookAt 40 = .ok (.aload_n 1, 1) := by decide +kernel
theorem dX4_lookAt_41 : decode cX4_lookAt 41 = .ok (.getfield 36, 3) := by decide +kernel
theorem dX4_lookAt_44 : decode cX4_lookAt 44 = .ok (.invokevirtual 37, 3) := by decide +kernel
theorem dX4_lookAt_47 : decode cX4_lookAt 47 = .ok (.invokevirtual 43, 3) := by decide +kernel
theorem dX4_lookAt_50 : decode cX4_lookAt 50 = .ok (.aload_n 0, 1) := by decide +kernel
theorem dX4_lookAt_51 : decode cX4_lookAt 51 = .ok (.getfield 9, 3) := by decide +kernel
theorem dX4_lookAt_54 : decode cX4_lookAt 54 = .ok (.aload_n 1, 1) := by decide +kernel
theorem dX4_lookAt_55 : decode cX4_lookAt 55 = .ok (.getfield 49, 3) := by decide +kernel
theorem dX4_lookAt_58 : decode cX4_lookAt 58 = .ok (.invokevirtual 52, 3) := by decide +kernel
theorem dX4_lookAt_61 : decode cX4_lookAt 61 = .ok (.aload_n 1, 1) := by decide +kernel
theorem dX4_lookAt_62 : decode cX4_lookAt 62 = .ok (.getfield 36, 3) := by decide +kernel
theorem dX4_lookAt_65 : decode cX4_lookAt 65 = .ok (.aload_n 1, 1) := by decide +kernel
theorem dX4_lookAt_66 : decode cX4_lookAt 66 = .ok (.getfield 49, 3) := by decide +kernel
theorem dX4_lookAt_69 : decode cX4_lookAt 69 = .ok (.invokevirtual 52, 3) := by decide +kernel
theorem dX4_lookAt_72 : decode cX4_lookAt 72 = .ok (.isub, 1) := by decide +kernel
theorem dX4_lookAt_73 : decode cX4_lookAt 73 = .ok (.istore_n 3, 1) := by decide +kernel
theorem dX4_lookAt_74 : decode cX4_lookAt 74 = .ok (.aload_n 0, 1) := by decide +kernel
theorem dX4_lookAt_75 : decode cX4_lookAt 75 = .ok (.iload_n 3, 1) := by decide +kernel
theorem dX4_lookAt_76 : decode cX4_lookAt 76 = .ok (.ifCond .ge 10, 3) := by decide +kernel
theorem dX4_lookAt_79 : decode cX4_lookAt 79 = .ok (.aload_n 1, 1) := by decide +kernel
theorem dX4_lookAt_80 : decode cX4_lookAt 80 = .ok (.getfield 56, 3) := by decide +kernel
theorem dX4_lookAt_83 : decode cX4_lookAt 83 = .ok (.goto 7, 3) := by decide +kernel
theorem dX4_lookAt_86 : decode cX4_lookAt 86 = .ok (.aload_n 1, 1) := by decide +kernel
theorem dX4_lookAt_87 : decode cX4_lookAt 87 = .ok (.getfield 60, 3) := by decide +kernel
theorem dX4_lookAt_90 : decode cX4_lookAt 90 = .ok (.iload_n 2, 1) := by decide +kernel
theorem dX4_lookAt_91 : decode cX4_lookAt 91 = .ok (.iconst 1, 1) := by decide +kernel
theorem dX4_lookAt_92 : decode cX4_lookAt 92 = .ok (.iadd, 1) := by decide +kernel
theorem dX4_lookAt_93 : decode cX4_lookAt 93 = .ok (.invokevirtual 23, 3) := by decide +kernel
theorem dX4_lookAt_96 : decode cX4_lookAt 96 = .ok (.aload_n 0, 1) := by decide +kernel
theorem dX4_lookAt_97 : decode cX4_lookAt 97 = .ok (.getfield 15, 3) := by decide +kernel
theorem dX4_lookAt_100 : decode cX4_lookAt 100 = .ok (.iload_n 3, 1) := by decide +kernel
theorem dX4_lookAt_101 : decode cX4_lookAt 101 = .ok (.i2l, 1) := by decide +kernel
theorem dX4_lookAt_102 : decode cX4_lookAt 102 = .ok (.invokestatic 63, 3) := by decide +kernel
theorem dX4_lookAt_105 : decode cX4_lookAt 105 = .ok (.invokevirtual 67, 3) := by decide +kernel
theorem dX4_lookAt_108 : decode cX4_lookAt 108 = .ok (.ifCond .ne 25, 3) := by decide +kernel
theorem dX4_lookAt_111 : decode cX4_lookAt 111 = .ok (.aload_n 0, 1) := by decide +kernel
theorem dX4_lookAt_112 : decode cX4_lookAt 112 = .ok (.iload_n 3, 1) := by decide +kernel
theorem dX4_lookAt_113 : decode cX4_lookAt 113 = .ok (.ifCond .ge 10, 3) := by decide +kernel
theorem dX4_lookAt_116 : decode cX4_lookAt 116 = .ok (.aload_n 1, 1) := by decide +kernel
theorem dX4_lookAt_117 : decode cX4_lookAt 117 = .ok (.getfield 60, 3) := by decide +kernel
theorem dX4_lookAt_120 : decode cX4_lookAt 120 = .ok (.goto 7, 3) := by decide +kernel
theorem dX4_lookAt_123 : decode cX4_lookAt 123 = .ok (.aload_n 1, 1) := by decide +kernel
theorem dX4_lookAt_124 : decode cX4_lookAt 124 = .ok (.getfield 56, 3) := by decide +kernel
theorem dX4_lookAt_127 : decode cX4_lookAt 127 = .ok (.iload_n 2, 1) := by decide +kernel
theorem dX4_lookAt_128 : decode cX4_lookAt 128 = .ok (.iconst 1, 1) := by decide +kernel
theorem dX4_lookAt_129 : decode cX4_lookAt 129 = .ok (.iadd, 1) := by decide +kernel
theorem dX4_lookAt_130 : decode cX4_lookAt 130 = .ok (.invokevirtual 23, 3) := by decide +kernel
theorem dX4_lookAt_133 : decode cX4_lookAt 133 = .ok (.return_, 1) := by decide +kernel
theorem dX5_init_0 : decode cX5_init 0 = .ok (.aload_n 0, 1) := by decide +kernel
theorem dX5_init_1 : decode cX5_init 1 = .ok (.invokespecial 3, 3) := by decide +kernel
theorem dX5_init_4 : decode cX5_init 4 = .ok (.aload_n 0, 1) := by decide +kernel
theorem dX5_init_5 : decode cX5_init 5 = .ok (.iload_n 1, 1) := by decide +kernel
theorem dX5_init_6 : decode cX5_init 6 = .ok (.putfield 9, 3) := by decide +kernel
theorem dX5_init_9 : decode cX5_init 9 = .ok (.aload_n 0, 1) := by decide +kernel
theorem dX5_init_10 : decode cX5_init 10 = .ok (.bipush 60, 2) := by decide +kernel
theorem dX5_init_12 : decode cX5_init 12 = .ok (.anewarray 15, 3) := by decide +kernel
theorem dX5_init_15 : decode cX5_init 15 = .ok (.putfield 17, 3) := by decide +kernel
theorem dX5_init_18 : decode cX5_init 18 = .ok (.return_, 1) := by decide +kernel
theorem dX5_nodeCount_0 : decode cX5_nodeCount 0 = .ok (.aload_n 0, 1) := by decide +kernel
theorem dX5_nodeCount_1 : decode cX5_nodeCount 1 = .ok (.getfield 21, 3) := by decide +kernel
theorem dX5_nodeCount_4 : decode cX5_nodeCount 4 = .ok (.invokestatic 25, 3) := by decide +kernel
theorem dX5_nodeCount_7 : decode cX5_nodeCount 7 = .ok (.ireturn, 1) := by decide +kernel
theorem dX5_hang_0 : decode cX5_hang 0 = .ok (.aconst_null, 1) := by decide +kernel
theorem dX5_hang_1 : decode cX5_hang 1 = .ok (.astore_n 2, 1) := by decide +kernel
theorem dX5_hang_2 : decode cX5_hang 2 = .ok (.aload_n 0, 1) := by decide +kernel
theorem dX5_hang_3 : decode cX5_hang 3 = .ok (.getfield 21, 3) := by decide +kernel
theorem dX5_hang_6 : decode cX5_hang 6 = .ok (.astore_n 3, 1) := by decide +kernel
theorem dX5_hang_7 : decode cX5_hang 7 = .ok (.aload_n 3, 1) := by decide +kernel
theorem dX5_hang_8 : decode cX5_hang 8 = .ok (.ifnull 24, 3) := by decide +kernel
theorem dX5_hang_11 : decode cX5_hang 11 = .ok (.aload_n 3, 1) := by decide +kernel
theorem dX5_hang_12 : decode cX5_hang 12 = .ok (.astore_n 2, 1) := by decide +kernel
theorem dX5_hang_13 : decode cX5_hang 13 = .ok (.aload_n 2, 1) := by decide +kernel
theorem dX5_hang_14 : decode cX5_hang 14 = .ok (.dup, 1) := by decide +kernel
theorem dX5_hang_15 : decode cX5_hang 15 = .ok (.getfield 29, 3) := by decide +kernel
theorem dX5_hang_18 : decode cX5_hang 18 = .ok (.iconst 1, 1) := by decide +kernel
theorem dX5_hang_19 : decode cX5_hang 19 = .ok (.iadd, 1) := by decide +kernel
theorem dX5_hang_20 : decode cX5_hang 20 = .ok (.putfield 29, 3) := by decide +kernel
theorem dX5_hang_23 : decode cX5_hang 23 = .ok (.aload_n 2, 1) := by decide +kernel
theorem dX5_hang_24 : decode cX5_hang 24 = .ok (.aload_n 1, 1) := by decide +kernel
theorem dX5_hang_25 : decode cX5_hang 25 = .ok (.invokevirtual 32, 3) := by decide +kernel
theorem dX5_hang_28 : decode cX5_hang 28 = .ok (.astore_n 3, 1) := by decide +kernel
theorem dX5_hang_29 : decode cX5_hang 29 = .ok (.goto (-22), 3) := by decide +kernel
theorem dX5_hang_32 : decode cX5_hang 32 = .ok (.aload_n 2, 1) := by decide +kernel
theorem dX5_hang_33 : decode cX5_hang 33 = .ok (.ifnonnull 9, 3) := by decide +kernel
theorem dX5_hang_36 : decode cX5_hang 36 = .ok (.aload_n 0, 1) := by decide +kernel
theorem dX5_hang_37 : decode cX5_hang 37 = .ok (.aload_n 1, 1) := by decide +kernel
theorem dX5_hang_38 : decode cX5_hang 38 = .ok (.putfield 21, 3) := by decide +kernel
theorem dX5_hang_41 : decode cX5_hang 41 = .ok (.return_, 1) := by decide +kernel
theorem dX5_hang_42 : decode cX5_hang 42 = .ok (.aload_n 1, 1) := by decide +kernel
theorem dX5_hang_43 : decode cX5_hang 43 = .ok (.aload_n 2, 1) := by decide +kernel
theorem dX5_hang_44 : decode cX5_hang 44 = .ok (.putfield 36, 3) := by decide +kernel
theorem dX5_hang_47 : decode cX5_hang 47 = .ok (.aload_n 1, 1) := by decide +kernel
theorem dX5_hang_48 : decode cX5_hang 48 = .ok (.aload_n 2, 1) := by decide +kernel
theorem dX5_hang_49 : decode cX5_hang 49 = .ok (.getfield 39, 3) := by decide +kernel
theorem dX5_hang_52 : decode cX5_hang 52 = .ok (.iconst 1, 1) := by decide +kernel
theorem dX5_hang_53 : decode cX5_hang 53 = .ok (.iadd, 1) := by decide +kernel
theorem dX5_hang_54 : decode cX5_hang 54 = .ok (.putfield 39, 3) := by decide +kernel
theorem dX5_hang_57 : decode cX5_hang 57 = .ok (.aload_n 1, 1) := by decide +kernel
theorem dX5_hang_58 : decode cX5_hang 58 = .ok (.aload_n 0, 1) := by decide +kernel
theorem dX5_hang_59 : decode cX5_hang 59 = .ok (.aload_n 2, 1) := by decide +kernel
theorem dX5_hang_60 : decode cX5_hang 60 = .ok (.getfield 42, 3) := by decide +kernel
theorem dX5_hang_63 : decode cX5_hang 63 = .ok (.invokevirtual 45, 3) := by decide +kernel
theorem dX5_hang_66 : decode cX5_hang 66 = .ok (.putfield 42, 3) := by decide +kernel
theorem dX5_hang_69 : decode cX5_hang 69 = .ok (.aload_n 1, 1) := by decide +kernel
theorem dX5_hang_70 : decode cX5_hang 70 = .ok (.aload_n 2, 1) := by decide +kernel
theorem dX5_hang_71 : decode cX5_hang 71 = .ok (.aload_n 2, 1) := by decide +kernel
theorem dX5_hang_72 : decode cX5_hang 72 = .ok (.getfield 42, 3) := by decide +kernel
theorem dX5_hang_75 : decode cX5_hang 75 = .ok (.invokevirtual 49, 3) := by decide +kernel
theorem dX5_hang_78 : decode cX5_hang 78 = .ok (.ifCond .eq 11, 3) := by decide +kernel
theorem dX5_hang_81 : decode cX5_hang 81 = .ok (.aload_n 2, 1) := by decide +kernel
theorem dX5_hang_82 : decode cX5_hang 82 = .ok (.aload_n 1, 1) := by decide +kernel
theorem dX5_hang_83 : decode cX5_hang 83 = .ok (.putfield 53, 3) := by decide +kernel
theorem dX5_hang_86 : decode cX5_hang 86 = .ok (.goto 8, 3) := by decide +kernel
theorem dX5_hang_89 : decode cX5_hang 89 = .ok (.aload_n 2, 1) := by decide +kernel
theorem dX5_hang_90 : decode cX5_hang 90 = .ok (.aload_n 1, 1) := by decide +kernel
theorem dX5_hang_91 : decode cX5_hang 91 = .ok (.putfield 56, 3) := by decide +kernel
theorem dX5_hang_94 : decode cX5_hang 94 = .ok (.return_, 1) := by decide +kernel
theorem dX5_firstLeaningAbove_0 : decode cX5_firstLeaningAbove 0 = .ok (.aload_n 0, 1) := by decide +kernel
theorem dX5_firstLeaningAbove_1 : decode cX5_firstLeaningAbove 1 = .ok (.getfield 21, 3) := by decide +kernel
theorem dX5_firstLeaningAbove_4 : decode cX5_firstLeaningAbove 4 = .ok (.astore_n 2, 1) := by decide +kernel
theorem dX5_firstLeaningAbove_5 : decode cX5_firstLeaningAbove 5 = .ok (.aload_n 2, 1) := by decide +kernel
theorem dX5_firstLeaningAbove_6 : decode cX5_firstLeaningAbove 6 = .ok (.ifnull 26, 3) := by decide +kernel
theorem dX5_firstLeaningAbove_9 : decode cX5_firstLeaningAbove 9 = .ok (.aload_n 2, 1) := by decide +kernel
theorem dX5_firstLeaningAbove_10 : decode cX5_firstLeaningAbove 10 = .ok (.aload_n 1, 1) := by decide +kernel
theorem dX5_firstLeaningAbove_11 : decode cX5_firstLeaningAbove 11 = .ok (.if_acmp .eq 21, 3) := by decide +kernel
theorem dX5_firstLeaningAbove_14 : decode cX5_firstLeaningAbove 14 = .ok (.aload_n 2, 1) := by decide +kernel
theorem dX5_firstLeaningAbove_15 : decode cX5_firstLeaningAbove 15 = .ok (.invokevirtual 59, 3) := by decide +kernel
theorem dX5_firstLeaningAbove_18 : decode cX5_firstLeaningAbove 18 = .ok (.ifCond .eq 5, 3) := by decide +kernel
theorem dX5_firstLeaningAbove_21 : decode cX5_firstLeaningAbove 21 = .ok (.aload_n 2, 1) := by decide +kernel
theorem dX5_firstLeaningAbove_22 : decode cX5_firstLeaningAbove 22 = .ok (.areturn, 1) := by decide +kernel
theorem dX5_firstLeaningAbove_23 : decode cX5_firstLeaningAbove 23 = .ok (.aload_n 2, 1) := by decide +kernel
theorem dX5_firstLeaningAbove_24 : decode cX5_firstLeaningAbove 24 = .ok (.aload_n 1, 1) := by decide +kernel
theorem dX5_firstLeaningAbove_25 : decode cX5_firstLeaningAbove 25 = .ok (.invokevirtual 32, 3) := by decide +kernel
theorem dX5_firstLeaningAbove_28 : decode cX5_firstLeaningAbove 28 = .ok (.astore_n 2, 1) := by decide +kernel
theorem dX5_firstLeaningAbove_29 : decode cX5_firstLeaningAbove 29 = .ok (.goto (-24), 3) := by decide +kernel
theorem dX5_firstLeaningAbove_32 : decode cX5_firstLeaningAbove 32 = .ok (.aconst_null, 1) := by decide +kernel
theorem dX5_firstLeaningAbove_33 : decode cX5_firstLeaningAbove 33 = .ok (.areturn, 1) := by decide +kernel
theorem dX5_buildAnew_0 : decode cX5_buildAnew 0 = .ok (.aload_n 1, 1) := by decide +kernel
theorem dX5_buildAnew_1 : decode cX5_buildAnew 1 = .ok (.ifnonnull 4, 3) := by decide +kernel
theorem dX5_buildAnew_4 : decode cX5_buildAnew 4 = .ok (.return_, 1) := by decide +kernel
theorem dX5_buildAnew_5 : decode cX5_buildAnew 5 = .ok (.aload_n 1, 1) := by decide +kernel
theorem dX5_buildAnew_6 : decode cX5_buildAnew 6 = .ok (.getfield 36, 3) := by decide +kernel
theorem dX5_buildAnew_9 : decode cX5_buildAnew 9 = .ok (.astore_n 2, 1) := by decide +kernel
theorem dX5_buildAnew_10 : decode cX5_buildAnew 10 = .ok (.aload_n 2, 1) := by decide +kernel
theorem dX5_buildAnew_11 : decode cX5_buildAnew 11 = .ok (.ifnull 15, 3) := by decide +kernel
theorem dX5_buildAnew_14 : decode cX5_buildAnew 14 = .ok (.aload_n 2, 1) := by decide +kernel
theorem dX5_buildAnew_15 : decode cX5_buildAnew 15 = .ok (.getfield 53, 3) := by decide +kernel
theorem dX5_buildAnew_18 : decode cX5_buildAnew 18 = .ok (.aload_n 1, 1) := by decide +kernel
theorem dX5_buildAnew_19 : decode cX5_buildAnew 19 = .ok (.if_acmp .ne 7, 3) := by decide +kernel
theorem dX5_buildAnew_22 : decode cX5_buildAnew 22 = .ok (.iconst 1, 1) := by decide +kernel
theorem dX5_buildAnew_23 : decode cX5_buildAnew 23 = .ok (.goto 4, 3) := by decide +kernel
theorem dX5_buildAnew_26 : decode cX5_buildAnew 26 = .ok (.iconst 0, 1) := by decide +kernel
theorem dX5_buildAnew_27 : decode cX5_buildAnew 27 = .ok (.istore_n 3, 1) := by decide +kernel
theorem dX5_buildAnew_28 : decode cX5_buildAnew 28 = .ok (.aload_n 1, 1) := by decide +kernel
theorem dX5_buildAnew_29 : decode cX5_buildAnew 29 = .ok (.getfield 29, 3) := by decide +kernel
theorem dX5_buildAnew_32 : decode cX5_buildAnew 32 = .ok (.istore 4, 2) := by decide +kernel
theorem dX5_buildAnew_34 : decode cX5_buildAnew 34 = .ok (.aload_n 0, 1) := by decide +kernel
theorem dX5_buildAnew_35 : decode cX5_buildAnew 35 = .ok (.aload_n 1, 1) := by decide +kernel
theorem dX5_buildAnew_36 : decode cX5_buildAnew 36 = .ok (.invokevirtual 63, 3) := by decide +kernel
theorem dX5_buildAnew_39 : decode cX5_buildAnew 39 = .ok (.istore 5, 2) := by decide +kernel
theorem dX5_buildAnew_41 : decode cX5_buildAnew 41 = .ok (.aload_n 0, 1) := by decide +kernel
theorem dX5_buildAnew_42 : decode cX5_buildAnew 42 = .ok (.iconst 0, 1) := by decide +kernel
theorem dX5_buildAnew_43 : decode cX5_buildAnew 43 = .ok (.iload 5, 2) := by decide +kernel
theorem dX5_buildAnew_45 : decode cX5_buildAnew 45 = .ok (.aload_n 1, 1) := by decide +kernel
theorem dX5_buildAnew_46 : decode cX5_buildAnew 46 = .ok (.getfield 39, 3) := by decide +kernel
theorem dX5_buildAnew_49 : decode cX5_buildAnew 49 = .ok (.aload_n 1, 1) := by decide +kernel
theorem dX5_buildAnew_50 : decode cX5_buildAnew 50 = .ok (.getfield 42, 3) := by decide +kernel
theorem dX5_buildAnew_53 : decode cX5_buildAnew 53 = .ok (.aload_n 2, 1) := by decide +kernel
theorem dX5_buildAnew_54 : decode cX5_buildAnew 54 = .ok (.invokevirtual 66, 3) := by decide +kernel
theorem dX5_buildAnew_57 : decode cX5_buildAnew 57 = .ok (.astore 6, 2) := by decide +kernel
theorem dX5_buildAnew_59 : decode cX5_buildAnew 59 = .ok (.aload_n 2, 1) := by decide +kernel
theorem dX5_buildAnew_60 : decode cX5_buildAnew 60 = .ok (.ifnonnull 12, 3) := by decide +kernel
theorem dX5_buildAnew_63 : decode cX5_buildAnew 63 = .ok (.aload_n 0, 1) := by decide +kernel
theorem dX5_buildAnew_64 : decode cX5_buildAnew 64 = .ok (.aload 6, 2) := by decide +kernel
theorem dX5_buildAnew_66 : decode cX5_buildAnew 66 = .ok (.putfield 21, 3) := by decide +kernel
theorem dX5_buildAnew_69 : decode cX5_buildAnew 69 = .ok (.goto 22, 3) := by decide +kernel
theorem dX5_buildAnew_72 : decode cX5_buildAnew 72 = .ok (.iload_n 3, 1) := by decide +kernel
theorem dX5_buildAnew_73 : decode cX5_buildAnew 73 = .ok (.ifCond .eq 12, 3) := by decide +kernel
theorem dX5_buildAnew_76 : decode cX5_buildAnew 76 = .ok (.aload_n 2, 1) := by decide +kernel
theorem dX5_buildAnew_77 : decode cX5_buildAnew 77 = .ok (.aload 6, 2) := by decide +kernel
theorem dX5_buildAnew_79 : decode cX5_buildAnew 79 = .ok (.putfield 53, 3) := by decide +kernel
theorem dX5_buildAnew_82 : decode cX5_buildAnew 82 = .ok (.goto 9, 3) := by decide +kernel
theorem dX5_buildAnew_85 : decode cX5_buildAnew 85 = .ok (.aload_n 2, 1) := by decide +kernel
theorem dX5_buildAnew_86 : decode cX5_buildAnew 86 = .ok (.aload 6, 2) := by decide +kernel
theorem dX5_buildAnew_88 : decode cX5_buildAnew 88 = .ok (.putfield 56, 3) := by decide +kernel
theorem dX5_buildAnew_91 : decode cX5_buildAnew 91 = .ok (.aload_n 2, 1) := by decide +kernel
theorem dX5_buildAnew_92 : decode cX5_buildAnew 92 = .ok (.astore 7, 2) := by decide +kernel
theorem dX5_buildAnew_94 : decode cX5_buildAnew 94 = .ok (.aload 7, 2) := by decide +kernel
theorem dX5_buildAnew_96 : decode cX5_buildAnew 96 = .ok (.ifnull 28, 3) := by decide +kernel
theorem dX5_buildAnew_99 : decode cX5_buildAnew 99 = .ok (.aload 7, 2) := by decide +kernel
theorem dX5_buildAnew_101 : decode cX5_buildAnew 101 = .ok (.dup, 1) := by decide +kernel
theorem dX5_buildAnew_102 : decode cX5_buildAnew 102 = .ok (.getfield 29, 3) := by decide +kernel
theorem dX5_buildAnew_105 : decode cX5_buildAnew 105 = .ok (.iload 4, 2) := by decide +kernel
theorem dX5_buildAnew_107 : decode cX5_buildAnew 107 = .ok (.iload 5, 2) := by decide +kernel
theorem dX5_buildAnew_109 : decode cX5_buildAnew 109 = .ok (.isub, 1) := by decide +kernel
theorem dX5_buildAnew_110 : decode cX5_buildAnew 110 = .ok (.isub, 1) := by decide +kernel
theorem dX5_buildAnew_111 : decode cX5_buildAnew 111 = .ok (.putfield 29, 3) := by decide +kernel
theorem dX5_buildAnew_114 : decode cX5_buildAnew 114 = .ok (.aload 7, 2) := by decide +kernel
theorem dX5_buildAnew_116 : decode cX5_buildAnew 116 = .ok (.getfield 36, 3) := by decide +kernel
theorem dX5_buildAnew_119 : decode cX5_buildAnew 119 = .ok (.astore 7, 2) := by decide +kernel
theorem dX5_buildAnew_121 : decode cX5_buildAnew 121 = .ok (.goto (-27), 3) := by decide +kernel
theorem dX5_buildAnew_124 : decode cX5_buildAnew 124 = .ok (.aload_n 0, 1) := by decide +kernel
theorem dX5_buildAnew_125 : decode cX5_buildAnew 125 = .ok (.dup, 1) := by decide +kernel
theorem dX5_buildAnew_126 : decode cX5_buildAnew 126 = .ok (.getfield 70, 3) := by decide +kernel
theorem dX5_buildAnew_129 : decode cX5_buildAnew 129 = .ok (.iload 5, 2) := by decide +kernel
theorem dX5_buildAnew_131 : decode cX5_buildAnew 131 = .ok (.iadd, 1) := by decide +kernel
theorem dX5_buildAnew_132 : decode cX5_buildAnew 132 = .ok (.putfield 70, 3) := by decide +kernel
theorem dX5_buildAnew_135 : decode cX5_buildAnew 135 = .ok (.return_, 1) := by decide +kernel
theorem dX5_gatherLive_0 : decode cX5_gatherLive 0 = .ok (.iconst 0, 1) := by decide +kernel
theorem dX5_gatherLive_1 : decode cX5_gatherLive 1 = .ok (.istore_n 2, 1) := by decide +kernel
theorem dX5_gatherLive_2 : decode cX5_gatherLive 2 = .ok (.iconst 0, 1) := by decide +kernel
theorem dX5_gatherLive_3 : decode cX5_gatherLive 3 = .ok (.istore_n 3, 1) := by decide +kernel
theorem dX5_gatherLive_4 : decode cX5_gatherLive 4 = .ok (.iload_n 3, 1) := by decide +kernel
theorem dX5_gatherLive_5 : decode cX5_gatherLive 5 = .ok (.aload_n 1, 1) := by decide +kernel
theorem dX5_gatherLive_6 : decode cX5_gatherLive 6 = .ok (.getfield 29, 3) := by decide +kernel
theorem dX5_gatherLive_9 : decode cX5_gatherLive 9 = .ok (.if_icmp .ge 49, 3) := by decide +kernel
theorem dX5_gatherLive_12 : decode cX5_gatherLive 12 = .ok (.iload_n 2, 1) := by decide +kernel
theorem dX5_gatherLive_13 : decode cX5_gatherLive 13 = .ok (.aload_n 0, 1) := by decide +kernel
theorem dX5_gatherLive_14 : decode cX5_gatherLive 14 = .ok (.getfield 17, 3) := by decide +kernel
theorem dX5_gatherLive_17 : decode cX5_gatherLive 17 = .ok (.arraylength, 1) := by decide +kernel
theorem dX5_gatherLive_18 : decode cX5_gatherLive 18 = .ok (.if_icmp .ge 40, 3) := by decide +kernel
theorem dX5_gatherLive_21 : decode cX5_gatherLive 21 = .ok (.aload_n 1, 1) := by decide +kernel
theorem dX5_gatherLive_22 : decode cX5_gatherLive 22 = .ok (.iload_n 3, 1) := by decide +kernel
theorem dX5_gatherLive_23 : decode cX5_gatherLive 23 = .ok (.invokestatic 73, 3) := by decide +kernel
theorem dX5_gatherLive_26 : decode cX5_gatherLive 26 = .ok (.astore 4, 2) := by decide +kernel
theorem dX5_gatherLive_28 : decode cX5_gatherLive 28 = .ok (.aload 4, 2) := by decide +kernel
theorem dX5_gatherLive_30 : decode cX5_gatherLive 30 = .ok (.ifnull 22, 3) := by decide +kernel
theorem dX5_gatherLive_33 : decode cX5_gatherLive 33 = .ok (.aload 4, 2) := by decide +kernel
theorem dX5_gatherLive_35 : decode cX5_gatherLive 35 = .ok (.getfield 77, 3) := by decide +kernel
theorem dX5_gatherLive_38 : decode cX5_gatherLive 38 = .ok (.ifCond .ne 14, 3) := by decide +kernel
theorem dX5_gatherLive_41 : decode cX5_gatherLive 41 = .ok (.aload_n 0, 1) := by decide +kernel
theorem dX5_gatherLive_42 : decode cX5_gatherLive 42 = .ok (.getfield 17, 3) := by decide +kernel
theorem dX5_gatherLive_45 : decode cX5_gatherLive 45 = .ok (.iload_n 2, 1) := by decide +kernel
theorem dX5_gatherLive_46 : decode cX5_gatherLive 46 = .ok (.aload 4, 2) := by decide +kernel
theorem dX5_gatherLive_48 : decode cX5_gatherLive 48 = .ok (.aastore, 1) := by decide +kernel
theorem dX5_gatherLive_49 : decode cX5_gatherLive 49 = .ok (.iinc 2 1, 3) := by decide +kernel
theorem dX5_gatherLive_52 : decode cX5_gatherLive 52 = .ok (.iinc 3 1, 3) := by decide +kernel
theorem dX5_gatherLive_55 : decode cX5_gatherLive 55 = .ok (.goto (-51), 3) := by decide +kernel
theorem dX5_gatherLive_58 : decode cX5_gatherLive 58 = .ok (.iload_n 2, 1) := by decide +kernel
theorem dX5_gatherLive_59 : decode cX5_gatherLive 59 = .ok (.ireturn, 1) := by decide +kernel
theorem dX5_build_0 : decode cX5_build 0 = .ok (.iload_n 1, 1) := by decide +kernel
theorem dX5_build_1 : decode cX5_build 1 = .ok (.ifCond .lt 23, 3) := by decide +kernel
theorem dX5_build_4 : decode cX5_build 4 = .ok (.iload_n 1, 1) := by decide +kernel
theorem dX5_build_5 : decode cX5_build 5 = .ok (.iload_n 2, 1) := by decide +kernel
theorem dX5_build_6 : decode cX5_build 6 = .ok (.if_icmp .ge 18, 3) := by decide +kernel
theorem dX5_build_9 : decode cX5_build 9 = .ok (.iload_n 2, 1) := by decide +kernel
theorem dX5_build_10 : decode cX5_build 10 = .ok (.aload_n 0, 1) := by decide +kernel
theorem dX5_build_11 : decode cX5_build 11 = .ok (.getfield 17, 3) := by decide +kernel
theorem dX5_build_14 : decode cX5_build 14 = .ok (.arraylength, 1) := by decide +kernel
theorem dX5_build_15 : decode cX5_build 15 = .ok (.if_icmp .gt 9, 3) := by decide +kernel
theorem dX5_build_18 : decode cX5_build 18 = .ok (.iload_n 3, 1) := by decide +kernel
theorem dX5_build_19 : decode cX5_build 19 = .ok (.bipush 120, 2) := by decide +kernel
theorem dX5_build_21 : decode cX5_build 21 = .ok (.if_icmp .lt 5, 3) := by decide +kernel
theorem dX5_build_24 : decode cX5_build 24 = .ok (.aconst_null, 1) := by decide +kernel
theorem dX5_build_25 : decode cX5_build 25 = .ok (.areturn, 1) := by decide +kernel
theorem dX5_build_26 : decode cX5_build 26 = .ok (.aload_n 0, 1) := by decide +kernel
theorem dX5_build_27 : decode cX5_build 27 = .ok (.iload_n 1, 1) := by decide +kernel
theorem dX5_build_28 : decode cX5_build 28 = .ok (.iload_n 2, 1) := by decide +kernel
theorem dX5_build_29 : decode cX5_build 29 = .ok (.iload 4, 2) := by decide +kernel
theorem dX5_build_31 : decode cX5_build 31 = .ok (.invokevirtual 81, 3) := by decide +kernel
theorem dX5_build_34 : decode cX5_build 34 = .ok (.iload_n 1, 1) := by decide +kernel
theorem dX5_build_35 : decode cX5_build 35 = .ok (.iload_n 2, 1) := by decide +kernel
theorem dX5_build_36 : decode cX5_build 36 = .ok (.iload_n 1, 1) := by decide +kernel
theorem dX5_build_37 : decode cX5_build 37 = .ok (.isub, 1) := by decide +kernel
theorem dX5_build_38 : decode cX5_build 38 = .ok (.iconst 2, 1) := by decide +kernel
theorem dX5_build_39 : decode cX5_build 39 = .ok (.idiv, 1) := by decide +kernel
theorem dX5_build_40 : decode cX5_build 40 = .ok (.iadd, 1) := by decide +kernel
theorem dX5_build_41 : decode cX5_build 41 = .ok (.istore 6, 2) := by decide +kernel
theorem dX5_build_43 : decode cX5_build 43 = .ok (.aload_n 0, 1) := by decide +kernel
theorem dX5_build_44 : decode cX5_build 44 = .ok (.getfield 17, 3) := by decide +kernel
theorem dX5_build_47 : decode cX5_build 47 = .ok (.iload 6, 2) := by decide +kernel
theorem dX5_build_49 : decode cX5_build 49 = .ok (.aaload, 1) := by decide +kernel
theorem dX5_build_50 : decode cX5_build 50 = .ok (.astore 7, 2) := by decide +kernel
theorem dX5_build_52 : decode cX5_build 52 = .ok (.aload 7, 2) := by decide +kernel
theorem dX5_build_54 : decode cX5_build 54 = .ok (.ifnonnull 5, 3) := by decide +kernel
theorem dX5_build_57 : decode cX5_build 57 = .ok (.aconst_null, 1) := by decide +kernel
theorem dX5_build_58 : decode cX5_build 58 = .ok (.areturn, 1) := by decide +kernel
theorem dX5_build_59 : decode cX5_build 59 = .ok (.aload 7, 2) := by decide +kernel
theorem dX5_build_61 : decode cX5_build 61 = .ok (.aload 5, 2) := by decide +kernel
theorem dX5_build_63 : decode cX5_build 63 = .ok (.putfield 36, 3) := by decide +kernel
theorem dX5_build_66 : decode cX5_build 66 = .ok (.aload 7, 2) := by decide +kernel
theorem dX5_build_68 : decode cX5_build 68 = .ok (.iload_n 3, 1) := by decide +kernel
theorem dX5_build_69 : decode cX5_build 69 = .ok (.putfield 39, 3) := by decide +kernel
theorem dX5_build_72 : decode cX5_build 72 = .ok (.aload 7, 2) := by decide +kernel
theorem dX5_build_74 : decode cX5_build 74 = .ok (.iload 4, 2) := by decide +kernel
theorem dX5_build_76 : decode cX5_build 76 = .ok (.putfield 42, 3) := by decide +kernel
theorem dX5_build_79 : decode cX5_build 79 = .ok (.aload 7, 2) := by decide +kernel
theorem dX5_build_81 : decode cX5_build 81 = .ok (.iload_n 2, 1) := by decide +kernel
theorem dX5_build_82 : decode cX5_build 82 = .ok (.iload_n 1, 1) := by decide +kernel
theorem dX5_build_83 : decode cX5_build 83 = .ok (.isub, 1) := by decide +kernel
theorem dX5_build_84 : decode cX5_build 84 = .ok (.putfield 29, 3) := by decide +kernel
theorem dX5_build_87 : decode cX5_build 87 = .ok (.aload_n 0, 1) := by decide +kernel
theorem dX5_build_88 : decode cX5_build 88 = .ok (.iload 4, 2) := by decide +kernel
theorem dX5_build_90 : decode cX5_build 90 = .ok (.invokevirtual 45, 3) := by decide +kernel
theorem dX5_build_93 : decode cX5_build 93 = .ok (.istore 8, 2) := by decide +kernel
theorem dX5_build_95 : decode cX5_build 95 = .ok (.aload 7, 2) := by decide +kernel
theorem dX5_build_97 : decode cX5_build 97 = .ok (.aload_n 0, 1) := by decide +kernel
theorem dX5_build_98 : decode cX5_build 98 = .ok (.iload_n 1, 1) := by decide +kernel
theorem dX5_build_99 : decode cX5_build 99 = .ok (.iload 6, 2) := by decide +kernel
theorem dX5_build_101 : decode cX5_build 101 = .ok (.iload_n 3, 1) := by decide +kernel
theorem dX5_build_102 : decode cX5_build 102 = .ok (.iconst 1, 1) := by decide +kernel
theorem dX5_build_103 : decode cX5_build 103 = .ok (.iadd, 1) := by decide +kernel
theorem dX5_build_104 : decode cX5_build 104 = .ok (.iload 8, 2) := by decide +kernel
theorem dX5_build_106 : decode cX5_build 106 = .ok (.aload 7, 2) := by decide +kernel
theorem dX5_build_108 : decode cX5_build 108 = .ok (.invokevirtual 66, 3) := by decide +kernel
theorem dX5_build_111 : decode cX5_build 111 = .ok (.putfield 53, 3) := by decide +kernel
theorem dX5_build_114 : decode cX5_build 114 = .ok (.aload 7, 2) := by decide +kernel
theorem dX5_build_116 : decode cX5_build 116 = .ok (.aload_n 0, 1) := by decide +kernel
theorem dX5_build_117 : decode cX5_build 117 = .ok (.iload 6, 2) := by decide +kernel
theorem dX5_build_119 : decode cX5_build 119 = .ok (.iconst 1, 1) := by decide +kernel
theorem dX5_build_120 : decode cX5_build 120 = .ok (.iadd, 1) := by decide +kernel
theorem dX5_build_121 : decode cX5_build 121 = .ok (.iload_n 2, 1) := by decide +kernel
theorem dX5_build_122 : decode cX5_build 122 = .ok (.iload_n 3, 1) := by decide +kernel
theorem dX5_build_123 : decode cX5_build 123 = .ok (.iconst 1, 1) := by decide +kernel
theorem dX5_build_124 : decode cX5_build 124 = .ok (.iadd, 1) := by decide +kernel
theorem dX5_build_125 : decode cX5_build 125 = .ok (.iload 8, 2) := by decide +kernel
theorem dX5_build_127 : decode cX5_build 127 = .ok (.aload 7, 2) := by decide +kernel
theorem dX5_build_129 : decode cX5_build 129 = .ok (.invokevirtual 66, 3) := by decide +kernel
theorem dX5_build_132 : decode cX5_build 132 = .ok (.putfield 56, 3) := by decide +kernel
theorem dX5_build_135 : decode cX5_build 135 = .ok (.aload 7, 2) := by decide +kernel
theorem dX5_build_137 : decode cX5_build 137 = .ok (.areturn, 1) := by decide +kernel
theorem dX5_order_0 : decode cX5_order 0 = .ok (.iload_n 1, 1) := by decide +kernel
theorem dX5_order_1 : decode cX5_order 1 = .ok (.iconst 1, 1) := by decide +kernel
theorem dX5_order_2 : decode cX5_order 2 = .ok (.iadd, 1) := by decide +kernel
theorem dX5_order_3 : decode cX5_order 3 = .ok (.istore 4, 2) := by decide +kernel
theorem dX5_order_5 : decode cX5_order 5 = .ok (.iload 4, 2) := by decide +kernel
theorem dX5_order_7 : decode cX5_order 7 = .ok (.iload_n 2, 1) := by decide +kernel
theorem dX5_order_8 : decode cX5_order 8 = .ok (.if_icmp .ge 77, 3) := by decide +kernel
theorem dX5_order_11 : decode cX5_order 11 = .ok (.aload_n 0, 1) := by decide +kernel
theorem dX5_order_12 : decode cX5_order 12 = .ok (.getfield 17, 3) := by decide +kernel
theorem dX5_order_15 : decode cX5_order 15 = .ok (.iload 4, 2) := by decide +kernel
theorem dX5_order_17 : decode cX5_order 17 = .ok (.aaload, 1) := by decide +kernel
theorem dX5_order_18 : decode cX5_order 18 = .ok (.astore 5, 2) := by decide +kernel
theorem dX5_order_20 : decode cX5_order 20 = .ok (.iload 4, 2) := by decide +kernel
theorem dX5_order_22 : decode cX5_order 22 = .ok (.istore 6, 2) := by decide +kernel
theorem dX5_order_24 : decode cX5_order 24 = .ok (.iload 6, 2) := by decide +kernel
theorem dX5_order_26 : decode cX5_order 26 = .ok (.iload_n 1, 1) := by decide +kernel
theorem dX5_order_27 : decode cX5_order 27 = .ok (.if_icmp .le 43, 3) := by decide +kernel
theorem dX5_order_30 : decode cX5_order 30 = .ok (.aload 5, 2) := by decide +kernel
theorem dX5_order_32 : decode cX5_order 32 = .ok (.aload_n 0, 1) := by decide +kernel
theorem dX5_order_33 : decode cX5_order 33 = .ok (.getfield 17, 3) := by decide +kernel
theorem dX5_order_36 : decode cX5_order 36 = .ok (.iload 6, 2) := by decide +kernel
theorem dX5_order_38 : decode cX5_order 38 = .ok (.iconst 1, 1) := by decide +kernel
theorem dX5_order_39 : decode cX5_order 39 = .ok (.isub, 1) := by decide +kernel
theorem dX5_order_40 : decode cX5_order 40 = .ok (.aaload, 1) := by decide +kernel
theorem dX5_order_41 : decode cX5_order 41 = .ok (.iload_n 3, 1) := by decide +kernel
theorem dX5_order_42 : decode cX5_order 42 = .ok (.invokestatic 85, 3) := by decide +kernel
theorem dX5_order_45 : decode cX5_order 45 = .ok (.ifCond .eq 25, 3) := by decide +kernel
theorem dX5_order_48 : decode cX5_order 48 = .ok (.aload_n 0, 1) := by decide +kernel
theorem dX5_order_49 : decode cX5_order 49 = .ok (.getfield 17, 3) := by decide +kernel
theorem dX5_order_52 : decode cX5_order 52 = .ok (.iload 6, 2) := by decide +kernel
theorem dX5_order_54 : decode cX5_order 54 = .ok (.aload_n 0, 1) := by decide +kernel
theorem dX5_order_55 : decode cX5_order 55 = .ok (.getfield 17, 3) := by decide +kernel
theorem dX5_order_58 : decode cX5_order 58 = .ok (.iload 6, 2) := by decide +kernel
theorem dX5_order_60 : decode cX5_order 60 = .ok (.iconst 1, 1) := by decide +kernel
theorem dX5_order_61 : decode cX5_order 61 = .ok (.isub, 1) := by decide +kernel
theorem dX5_order_62 : decode cX5_order 62 = .ok (.aaload, 1) := by decide +kernel
theorem dX5_order_63 : decode cX5_order 63 = .ok (.aastore, 1) := by decide +kernel
theorem dX5_order_64 : decode cX5_order 64 = .ok (.iinc 6 (-1), 3) := by decide +kernel
theorem dX5_order_67 : decode cX5_order 67 = .ok (.goto (-43), 3) := by decide +kernel
theorem dX5_order_70 : decode cX5_order 70 = .ok (.aload_n 0, 1) := by decide +kernel
theorem dX5_order_71 : decode cX5_order 71 = .ok (.getfield 17, 3) := by decide +kernel
theorem dX5_order_74 : decode cX5_order 74 = .ok (.iload 6, 2) := by decide +kernel
theorem dX5_order_76 : decode cX5_order 76 = .ok (.aload 5, 2) := by decide +kernel
theorem dX5_order_78 : decode cX5_order 78 = .ok (.aastore, 1) := by decide +kernel
theorem dX5_order_79 : decode cX5_order 79 = .ok (.iinc 4 1, 3) := by decide +kernel
theorem dX5_order_82 : decode cX5_order 82 = .ok (.goto (-77), 3) := by decide +kernel
theorem dX5_order_85 : decode cX5_order 85 = .ok (.return_, 1) := by decide +kernel
theorem dX5_isAhead_0 : decode cX5_isAhead 0 = .ok (.aload_n 0, 1) := by decide +kernel
theorem dX5_isAhead_1 : decode cX5_isAhead 1 = .ok (.ifnull 20, 3) := by decide +kernel
theorem dX5_isAhead_4 : decode cX5_isAhead 4 = .ok (.aload_n 1, 1) := by decide +kernel
theorem dX5_isAhead_5 : decode cX5_isAhead 5 = .ok (.ifnull 16, 3) := by decide +kernel
theorem dX5_isAhead_8 : decode cX5_isAhead 8 = .ok (.aload_n 0, 1) := by decide +kernel
theorem dX5_isAhead_9 : decode cX5_isAhead 9 = .ok (.aload_n 1, 1) := by decide +kernel
theorem dX5_isAhead_10 : decode cX5_isAhead 10 = .ok (.iload_n 2, 1) := by decide +kernel
theorem dX5_isAhead_11 : decode cX5_isAhead 11 = .ok (.invokevirtual 49, 3) := by decide +kernel
theorem dX5_isAhead_14 : decode cX5_isAhead 14 = .ok (.ifCond .eq 7, 3) := by decide +kernel
theorem dX5_isAhead_17 : decode cX5_isAhead 17 = .ok (.iconst 1, 1) := by decide +kernel
theorem dX5_isAhead_18 : decode cX5_isAhead 18 = .ok (.goto 4, 3) := by decide +kernel
theorem dX5_isAhead_21 : decode cX5_isAhead 21 = .ok (.iconst 0, 1) := by decide +kernel
theorem dX5_isAhead_22 : decode cX5_isAhead 22 = .ok (.ireturn, 1) := by decide +kernel
theorem dX5_axisBehind_0 : decode cX5_axisBehind 0 = .ok (.iload_n 1, 1) := by decide +kernel
theorem dX5_axisBehind_1 : decode cX5_axisBehind 1 = .ok (.iconst 1, 1) := by decide +kernel
theorem dX5_axisBehind_2 : decode cX5_axisBehind 2 = .ok (.iadd, 1) := by decide +kernel
theorem dX5_axisBehind_3 : decode cX5_axisBehind 3 = .ok (.aload_n 0, 1) := by decide +kernel
theorem dX5_axisBehind_4 : decode cX5_axisBehind 4 = .ok (.getfield 9, 3) := by decide +kernel
theorem dX5_axisBehind_7 : decode cX5_axisBehind 7 = .ok (.if_icmp .ge 9, 3) := by decide +kernel
theorem dX5_axisBehind_10 : decode cX5_axisBehind 10 = .ok (.iload_n 1, 1) := by decide +kernel
theorem dX5_axisBehind_11 : decode cX5_axisBehind 11 = .ok (.iconst 1, 1) := by decide +kernel
theorem dX5_axisBehind_12 : decode cX5_axisBehind 12 = .ok (.iadd, 1) := by decide +kernel
theorem dX5_axisBehind_13 : decode cX5_axisBehind 13 = .ok (.goto 4, 3) := by decide +kernel
theorem dX5_axisBehind_16 : decode cX5_axisBehind 16 = .ok (.iconst 0, 1) := by decide +kernel
theorem dX5_axisBehind_17 : decode cX5_axisBehind 17 = .ok (.ireturn, 1) := by decide +kernel
theorem dX5_nodeOnWalk_0 : decode cX5_nodeOnWalk 0 = .ok (.aload_n 0, 1) := by decide +kernel
theorem dX5_nodeOnWalk_1 : decode cX5_nodeOnWalk 1 = .ok (.astore_n 2, 1) := by decide +kernel
theorem dX5_nodeOnWalk_2 : decode cX5_nodeOnWalk 2 = .ok (.iload_n 1, 1) := by decide +kernel
theorem dX5_nodeOnWalk_3 : decode cX5_nodeOnWalk 3 = .ok (.istore_n 3, 1) := by decide +kernel
theorem dX5_nodeOnWalk_4 : decode cX5_nodeOnWalk 4 = .ok (.aload_n 2, 1) := by decide +kernel
theorem dX5_nodeOnWalk_5 : decode cX5_nodeOnWalk 5 = .ok (.ifnull 46, 3) := by decide +kernel
theorem dX5_nodeOnWalk_8 : decode cX5_nodeOnWalk 8 = .ok (.iload_n 3, 1) := by decide +kernel
theorem dX5_nodeOnWalk_9 : decode cX5_nodeOnWalk 9 = .ok (.ifCond .le 42, 3) := by decide +kernel
theorem dX5_nodeOnWalk_12 : decode cX5_nodeOnWalk 12 = .ok (.iinc 3 (-1), 3) := by decide +kernel
theorem dX5_nodeOnWalk_15 : decode cX5_nodeOnWalk 15 = .ok (.aload_n 2, 1) := by decide +kernel
theorem dX5_nodeOnWalk_16 : decode cX5_nodeOnWalk 16 = .ok (.getfield 53, 3) := by decide +kernel
theorem dX5_nodeOnWalk_19 : decode cX5_nodeOnWalk 19 = .ok (.invokestatic 25, 3) := by decide +kernel
theorem dX5_nodeOnWalk_22 : decode cX5_nodeOnWalk 22 = .ok (.istore 4, 2) := by decide +kernel
theorem dX5_nodeOnWalk_24 : decode cX5_nodeOnWalk 24 = .ok (.iload_n 3, 1) := by decide +kernel
theorem dX5_nodeOnWalk_25 : decode cX5_nodeOnWalk 25 = .ok (.iload 4, 2) := by decide +kernel
theorem dX5_nodeOnWalk_27 : decode cX5_nodeOnWalk 27 = .ok (.if_icmp .ge 11, 3) := by decide +kernel
theorem dX5_nodeOnWalk_30 : decode cX5_nodeOnWalk 30 = .ok (.aload_n 2, 1) := by decide +kernel
theorem dX5_nodeOnWalk_31 : decode cX5_nodeOnWalk 31 = .ok (.getfield 53, 3) := by decide +kernel
theorem dX5_nodeOnWalk_34 : decode cX5_nodeOnWalk 34 = .ok (.astore_n 2, 1) := by decide +kernel
theorem dX5_nodeOnWalk_35 : decode cX5_nodeOnWalk 35 = .ok (.goto 13, 3) := by decide +kernel
theorem dX5_nodeOnWalk_38 : decode cX5_nodeOnWalk 38 = .ok (.iload_n 3, 1) := by decide +kernel
theorem dX5_nodeOnWalk_39 : decode cX5_nodeOnWalk 39 = .ok (.iload 4, 2) := by decide +kernel
theorem dX5_nodeOnWalk_41 : decode cX5_nodeOnWalk 41 = .ok (.isub, 1) := by decide +kernel
theorem dX5_nodeOnWalk_42 : decode cX5_nodeOnWalk 42 = .ok (.istore_n 3, 1) := by decide +kernel
theorem dX5_nodeOnWalk_43 : decode cX5_nodeOnWalk 43 = .ok (.aload_n 2, 1) := by decide +kernel
theorem dX5_nodeOnWalk_44 : decode cX5_nodeOnWalk 44 = .ok (.getfield 56, 3) := by decide +kernel
theorem dX5_nodeOnWalk_47 : decode cX5_nodeOnWalk 47 = .ok (.astore_n 2, 1) := by decide +kernel
theorem dX5_nodeOnWalk_48 : decode cX5_nodeOnWalk 48 = .ok (.goto (-44), 3) := by decide +kernel
theorem dX5_nodeOnWalk_51 : decode cX5_nodeOnWalk 51 = .ok (.aload_n 2, 1) := by decide +kernel
theorem dX5_nodeOnWalk_52 : decode cX5_nodeOnWalk 52 = .ok (.areturn, 1) := by decide +kernel
theorem dX5_levels_0 : decode cX5_levels 0 = .ok (.iconst 0, 1) := by decide +kernel
theorem dX5_levels_1 : decode cX5_levels 1 = .ok (.istore_n 1, 1) := by decide +kernel
theorem dX5_levels_2 : decode cX5_levels 2 = .ok (.aload_n 0, 1) := by decide +kernel
theorem dX5_levels_3 : decode cX5_levels 3 = .ok (.invokevirtual 89, 3) := by decide +kernel
theorem dX5_levels_6 : decode cX5_levels 6 = .ok (.istore_n 2, 1) := by decide +kernel
theorem dX5_levels_7 : decode cX5_levels 7 = .ok (.iconst 0, 1) := by decide +kernel
theorem dX5_levels_8 : decode cX5_levels 8 = .ok (.istore_n 3, 1) := by decide +kernel
theorem dX5_levels_9 : decode cX5_levels 9 = .ok (.iload_n 3, 1) := by decide +kernel
theorem dX5_levels_10 : decode cX5_levels 10 = .ok (.iload_n 2, 1) := by decide +kernel
theorem dX5_levels_11 : decode cX5_levels 11 = .ok (.if_icmp .ge 36, 3) := by decide +kernel
theorem dX5_levels_14 : decode cX5_levels 14 = .ok (.aload_n 0, 1) := by decide +kernel
theorem dX5_levels_15 : decode cX5_levels 15 = .ok (.getfield 21, 3) := by decide +kernel
theorem dX5_levels_18 : decode cX5_levels 18 = .ok (.iload_n 3, 1) := by decide +kernel
theorem dX5_levels_19 : decode cX5_levels 19 = .ok (.invokestatic 73, 3) := by decide +kernel
theorem dX5_levels_22 : decode cX5_levels 22 = .ok (.astore 4, 2) := by decide +kernel
theorem dX5_levels_24 : decode cX5_levels 24 = .ok (.aload 4, 2) := by decide +kernel
theorem dX5_levels_26 : decode cX5_levels 26 = .ok (.ifnull 15, 3) := by decide +kernel
theorem dX5_levels_29 : decode cX5_levels 29 = .ok (.iload_n 1, 1) := by decide +kernel
theorem dX5_levels_30 : decode cX5_levels 30 = .ok (.aload 4, 2) := by decide +kernel
theorem dX5_levels_32 : decode cX5_levels 32 = .ok (.getfield 39, 3) := by decide +kernel
theorem dX5_levels_35 : decode cX5_levels 35 = .ok (.iconst 1, 1) := by decide +kernel
theorem dX5_levels_36 : decode cX5_levels 36 = .ok (.iadd, 1) := by decide +kernel
theorem dX5_levels_37 : decode cX5_levels 37 = .ok (.invokestatic 93, 3) := by decide +kernel
theorem dX5_levels_40 : decode cX5_levels 40 = .ok (.istore_n 1, 1) := by decide +kernel
theorem dX5_levels_41 : decode cX5_levels 41 = .ok (.iinc 3 1, 3) := by decide +kernel
theorem dX5_levels_44 : decode cX5_levels 44 = .ok (.goto (-35), 3) := by decide +kernel
theorem dX5_levels_47 : decode cX5_levels 47 = .ok (.iload_n 1, 1) := by decide +kernel
theorem dX5_levels_48 : decode cX5_levels 48 = .ok (.ireturn, 1) := by decide +kernel
