theorem dX6_init_0 : decode cX6_init 0 = .ok (.aload_n 0, 1) := by decide +kernel
theorem dX6_init_1 : decode cX6_init 1 = .ok (.invokespecial 3, 3) := by decide +kernel
theorem dX6_init_4 : decode cX6_init 4 = .ok (.aload_n 0, 1) := by decide +kernel
theorem dX6_init_5 : decode cX6_init 5 = .ok (.iconst 1, 1) := by decide +kernel
theorem dX6_init_6 : decode cX6_init 6 = .ok (.iconst 4, 1) := by decide +kernel
theorem dX6_init_7 : decode cX6_init 7 = .ok (.iload_n 1, 1) := by decide +kernel
theorem dX6_init_8 : decode cX6_init 8 = .ok (.invokestatic 9, 3) := by decide +kernel
theorem dX6_init_11 : decode cX6_init 11 = .ok (.invokestatic 15, 3) := by decide +kernel
theorem dX6_init_14 : decode cX6_init 14 = .ok (.putfield 18, 3) := by decide +kernel
theorem dX6_init_17 : decode cX6_init 17 = .ok (.aload_n 0, 1) := by decide +kernel
theorem dX6_init_18 : decode cX6_init 18 = .ok (.bipush 100, 2) := by decide +kernel
theorem dX6_init_20 : decode cX6_init 20 = .ok (.anewarray 22, 3) := by decide +kernel
theorem dX6_init_23 : decode cX6_init 23 = .ok (.putfield 24, 3) := by decide +kernel
theorem dX6_init_26 : decode cX6_init 26 = .ok (.aload_n 0, 1) := by decide +kernel
theorem dX6_init_27 : decode cX6_init 27 = .ok (.new 28, 3) := by decide +kernel
theorem dX6_init_30 : decode cX6_init 30 = .ok (.dup, 1) := by decide +kernel
theorem dX6_init_31 : decode cX6_init 31 = .ok (.aload_n 0, 1) := by decide +kernel
theorem dX6_init_32 : decode cX6_init 32 = .ok (.getfield 18, 3) := by decide +kernel
theorem dX6_init_35 : decode cX6_init 35 = .ok (.invokespecial 30, 3) := by decide +kernel
theorem dX6_init_38 : decode cX6_init 38 = .ok (.putfield 33, 3) := by decide +kernel
theorem dX6_init_41 : decode cX6_init 41 = .ok (.aload_n 0, 1) := by decide +kernel
theorem dX6_init_42 : decode cX6_init 42 = .ok (.new 37, 3) := by decide +kernel
theorem dX6_init_45 : decode cX6_init 45 = .ok (.dup, 1) := by decide +kernel
theorem dX6_init_46 : decode cX6_init 46 = .ok (.invokespecial 39, 3) := by decide +kernel
theorem dX6_init_49 : decode cX6_init 49 = .ok (.putfield 40, 3) := by decide +kernel
theorem dX6_init_52 : decode cX6_init 52 = .ok (.aload_n 0, 1) := by decide +kernel
theorem dX6_init_53 : decode cX6_init 53 = .ok (.new 44, 3) := by decide +kernel
theorem dX6_init_56 : decode cX6_init 56 = .ok (.dup, 1) := by decide +kernel
theorem dX6_init_57 : decode cX6_init 57 = .ok (.invokespecial 46, 3) := by decide +kernel
theorem dX6_init_60 : decode cX6_init 60 = .ok (.putfield 47, 3) := by decide +kernel
theorem dX6_init_63 : decode cX6_init 63 = .ok (.return_, 1) := by decide +kernel
theorem dX6_put_0 : decode cX6_put 0 = .ok (.iload_n 1, 1) := by decide +kernel
theorem dX6_put_1 : decode cX6_put 1 = .ok (.invokestatic 51, 3) := by decide +kernel
theorem dX6_put_4 : decode cX6_put 4 = .ok (.ifCond .eq 16, 3) := by decide +kernel
theorem dX6_put_7 : decode cX6_put 7 = .ok (.aload_n 0, 1) := by decide +kernel
theorem dX6_put_8 : decode cX6_put 8 = .ok (.iload_n 2, 1) := by decide +kernel
theorem dX6_put_9 : decode cX6_put 9 = .ok (.iload_n 3, 1) := by decide +kernel
theorem dX6_put_10 : decode cX6_put 10 = .ok (.iload 4, 2) := by decide +kernel
theorem dX6_put_12 : decode cX6_put 12 = .ok (.iload 5, 2) := by decide +kernel
theorem dX6_put_14 : decode cX6_put 14 = .ok (.invokevirtual 55, 3) := by decide +kernel
theorem dX6_put_17 : decode cX6_put 17 = .ok (.ifCond .ne 13, 3) := by decide +kernel
theorem dX6_put_20 : decode cX6_put 20 = .ok (.new 59, 3) := by decide +kernel
theorem dX6_put_23 : decode cX6_put 23 = .ok (.dup, 1) := by decide +kernel
theorem dX6_put_24 : decode cX6_put 24 = .ok (.ldc 61, 2) := by decide +kernel
theorem dX6_put_26 : decode cX6_put 26 = .ok (.invokespecial 63, 3) := by decide +kernel
theorem dX6_put_29 : decode cX6_put 29 = .ok (.athrow, 1) := by decide +kernel
theorem dX6_put_30 : decode cX6_put 30 = .ok (.aload_n 0, 1) := by decide +kernel
theorem dX6_put_31 : decode cX6_put 31 = .ok (.getfield 24, 3) := by decide +kernel
theorem dX6_put_34 : decode cX6_put 34 = .ok (.iload_n 1, 1) := by decide +kernel
theorem dX6_put_35 : decode cX6_put 35 = .ok (.aaload, 1) := by decide +kernel
theorem dX6_put_36 : decode cX6_put 36 = .ok (.ifnonnull 12, 3) := by decide +kernel
theorem dX6_put_39 : decode cX6_put 39 = .ok (.aload_n 0, 1) := by decide +kernel
theorem dX6_put_40 : decode cX6_put 40 = .ok (.getfield 66, 3) := by decide +kernel
theorem dX6_put_43 : decode cX6_put 43 = .ok (.bipush 60, 2) := by decide +kernel
theorem dX6_put_45 : decode cX6_put 45 = .ok (.if_icmp .lt 13, 3) := by decide +kernel
theorem dX6_put_48 : decode cX6_put 48 = .ok (.new 69, 3) := by decide +kernel
theorem dX6_put_51 : decode cX6_put 51 = .ok (.dup, 1) := by decide +kernel
theorem dX6_put_52 : decode cX6_put 52 = .ok (.ldc 71, 2) := by decide +kernel
theorem dX6_put_54 : decode cX6_put 54 = .ok (.invokespecial 73, 3) := by decide +kernel
theorem dX6_put_57 : decode cX6_put 57 = .ok (.athrow, 1) := by decide +kernel
theorem dX6_put_58 : decode cX6_put 58 = .ok (.new 22, 3) := by decide +kernel
theorem dX6_put_61 : decode cX6_put 61 = .ok (.dup, 1) := by decide +kernel
theorem dX6_put_62 : decode cX6_put 62 = .ok (.iload_n 1, 1) := by decide +kernel
theorem dX6_put_63 : decode cX6_put 63 = .ok (.new 74, 3) := by decide +kernel
theorem dX6_put_66 : decode cX6_put 66 = .ok (.dup, 1) := by decide +kernel
theorem dX6_put_67 : decode cX6_put 67 = .ok (.aload_n 0, 1) := by decide +kernel
theorem dX6_put_68 : decode cX6_put 68 = .ok (.getfield 18, 3) := by decide +kernel
theorem dX6_put_71 : decode cX6_put 71 = .ok (.iload_n 2, 1) := by decide +kernel
theorem dX6_put_72 : decode cX6_put 72 = .ok (.iload_n 3, 1) := by decide +kernel
theorem dX6_put_73 : decode cX6_put 73 = .ok (.iload 4, 2) := by decide +kernel
theorem dX6_put_75 : decode cX6_put 75 = .ok (.iload 5, 2) := by decide +kernel
theorem dX6_put_77 : decode cX6_put 77 = .ok (.invokespecial 76, 3) := by decide +kernel
theorem dX6_put_80 : decode cX6_put 80 = .ok (.invokespecial 79, 3) := by decide +kernel
theorem dX6_put_83 : decode cX6_put 83 = .ok (.astore 6, 2) := by decide +kernel
theorem dX6_put_85 : decode cX6_put 85 = .ok (.aload_n 0, 1) := by decide +kernel
theorem dX6_put_86 : decode cX6_put 86 = .ok (.getfield 24, 3) := by decide +kernel
theorem dX6_put_89 : decode cX6_put 89 = .ok (.iload_n 1, 1) := by decide +kernel
theorem dX6_put_90 : decode cX6_put 90 = .ok (.aload 6, 2) := by decide +kernel
theorem dX6_put_92 : decode cX6_put 92 = .ok (.aastore, 1) := by decide +kernel
theorem dX6_put_93 : decode cX6_put 93 = .ok (.aload_n 0, 1) := by decide +kernel
theorem dX6_put_94 : decode cX6_put 94 = .ok (.dup, 1) := by decide +kernel
theorem dX6_put_95 : decode cX6_put 95 = .ok (.getfield 66, 3) := by decide +kernel
theorem dX6_put_98 : decode cX6_put 98 = .ok (.iconst 1, 1) := by decide +kernel
theorem dX6_put_99 : decode cX6_put 99 = .ok (.iadd, 1) := by decide +kernel
theorem dX6_put_100 : decode cX6_put 100 = .ok (.putfield 66, 3) := by decide +kernel
theorem dX6_put_103 : decode cX6_put 103 = .ok (.aload_n 0, 1) := by decide +kernel
theorem dX6_put_104 : decode cX6_put 104 = .ok (.getfield 33, 3) := by decide +kernel
theorem dX6_put_107 : decode cX6_put 107 = .ok (.aload 6, 2) := by decide +kernel
theorem dX6_put_109 : decode cX6_put 109 = .ok (.invokevirtual 82, 3) := by decide +kernel
theorem dX6_put_112 : decode cX6_put 112 = .ok (.aload_n 0, 1) := by decide +kernel
theorem dX6_put_113 : decode cX6_put 113 = .ok (.getfield 33, 3) := by decide +kernel
theorem dX6_put_116 : decode cX6_put 116 = .ok (.aload 6, 2) := by decide +kernel
theorem dX6_put_118 : decode cX6_put 118 = .ok (.invokevirtual 86, 3) := by decide +kernel
theorem dX6_put_121 : decode cX6_put 121 = .ok (.astore 7, 2) := by decide +kernel
theorem dX6_put_123 : decode cX6_put 123 = .ok (.aload 7, 2) := by decide +kernel
theorem dX6_put_125 : decode cX6_put 125 = .ok (.ifnull 22, 3) := by decide +kernel
theorem dX6_put_128 : decode cX6_put 128 = .ok (.aload_n 0, 1) := by decide +kernel
theorem dX6_put_129 : decode cX6_put 129 = .ok (.dup, 1) := by decide +kernel
theorem dX6_put_130 : decode cX6_put 130 = .ok (.getfield 90, 3) := by decide +kernel
theorem dX6_put_133 : decode cX6_put 133 = .ok (.iconst 1, 1) := by decide +kernel
theorem dX6_put_134 : decode cX6_put 134 = .ok (.iadd, 1) := by decide +kernel
theorem dX6_put_135 : decode cX6_put 135 = .ok (.putfield 90, 3) := by decide +kernel
theorem dX6_put_138 : decode cX6_put 138 = .ok (.aload_n 0, 1) := by decide +kernel
theorem dX6_put_139 : decode cX6_put 139 = .ok (.getfield 33, 3) := by decide +kernel
theorem dX6_put_142 : decode cX6_put 142 = .ok (.aload 7, 2) := by decide +kernel
theorem dX6_put_144 : decode cX6_put 144 = .ok (.invokevirtual 93, 3) := by decide +kernel
theorem dX6_put_147 : decode cX6_put 147 = .ok (.aload_n 0, 1) := by decide +kernel
theorem dX6_put_148 : decode cX6_put 148 = .ok (.getfield 66, 3) := by decide +kernel
theorem dX6_put_151 : decode cX6_put 151 = .ok (.ireturn, 1) := by decide +kernel
theorem dX6_drop_0 : decode cX6_drop 0 = .ok (.iload_n 1, 1) := by decide +kernel
theorem dX6_drop_1 : decode cX6_drop 1 = .ok (.invokestatic 51, 3) := by decide +kernel
theorem dX6_drop_4 : decode cX6_drop 4 = .ok (.ifCond .ne 13, 3) := by decide +kernel
theorem dX6_drop_7 : decode cX6_drop 7 = .ok (.new 59, 3) := by decide +kernel
theorem dX6_drop_10 : decode cX6_drop 10 = .ok (.dup, 1) := by decide +kernel
theorem dX6_drop_11 : decode cX6_drop 11 = .ok (.ldc 96, 2) := by decide +kernel
theorem dX6_drop_13 : decode cX6_drop 13 = .ok (.invokespecial 63, 3) := by decide +kernel
theorem dX6_drop_16 : decode cX6_drop 16 = .ok (.athrow, 1) := by decide +kernel
theorem dX6_drop_17 : decode cX6_drop 17 = .ok (.aload_n 0, 1) := by decide +kernel
theorem dX6_drop_18 : decode cX6_drop 18 = .ok (.getfield 24, 3) := by decide +kernel
theorem dX6_drop_21 : decode cX6_drop 21 = .ok (.iload_n 1, 1) := by decide +kernel
theorem dX6_drop_22 : decode cX6_drop 22 = .ok (.aaload, 1) := by decide +kernel
theorem dX6_drop_23 : decode cX6_drop 23 = .ok (.astore_n 2, 1) := by decide +kernel
theorem dX6_drop_24 : decode cX6_drop 24 = .ok (.aload_n 2, 1) := by decide +kernel
theorem dX6_drop_25 : decode cX6_drop 25 = .ok (.ifnonnull 13, 3) := by decide +kernel
theorem dX6_drop_28 : decode cX6_drop 28 = .ok (.new 69, 3) := by decide +kernel
theorem dX6_drop_31 : decode cX6_drop 31 = .ok (.dup, 1) := by decide +kernel
theorem dX6_drop_32 : decode cX6_drop 32 = .ok (.ldc 98, 2) := by decide +kernel
theorem dX6_drop_34 : decode cX6_drop 34 = .ok (.invokespecial 73, 3) := by decide +kernel
theorem dX6_drop_37 : decode cX6_drop 37 = .ok (.athrow, 1) := by decide +kernel
theorem dX6_drop_38 : decode cX6_drop 38 = .ok (.aload_n 2, 1) := by decide +kernel
theorem dX6_drop_39 : decode cX6_drop 39 = .ok (.iconst 1, 1) := by decide +kernel
theorem dX6_drop_40 : decode cX6_drop 40 = .ok (.putfield 100, 3) := by decide +kernel
theorem dX6_drop_43 : decode cX6_drop 43 = .ok (.aload_n 0, 1) := by decide +kernel
theorem dX6_drop_44 : decode cX6_drop 44 = .ok (.getfield 24, 3) := by decide +kernel
theorem dX6_drop_47 : decode cX6_drop 47 = .ok (.iload_n 1, 1) := by decide +kernel
theorem dX6_drop_48 : decode cX6_drop 48 = .ok (.aconst_null, 1) := by decide +kernel
theorem dX6_drop_49 : decode cX6_drop 49 = .ok (.aastore, 1) := by decide +kernel
theorem dX6_drop_50 : decode cX6_drop 50 = .ok (.aload_n 0, 1) := by decide +kernel
theorem dX6_drop_51 : decode cX6_drop 51 = .ok (.dup, 1) := by decide +kernel
theorem dX6_drop_52 : decode cX6_drop 52 = .ok (.getfield 66, 3) := by decide +kernel
theorem dX6_drop_55 : decode cX6_drop 55 = .ok (.iconst 1, 1) := by decide +kernel
theorem dX6_drop_56 : decode cX6_drop 56 = .ok (.isub, 1) := by decide +kernel
theorem dX6_drop_57 : decode cX6_drop 57 = .ok (.putfield 66, 3) := by decide +kernel
theorem dX6_drop_60 : decode cX6_drop 60 = .ok (.aload_n 0, 1) := by decide +kernel
theorem dX6_drop_61 : decode cX6_drop 61 = .ok (.invokevirtual 104, 3) := by decide +kernel
theorem dX6_drop_64 : decode cX6_drop 64 = .ok (.iconst 2, 1) := by decide +kernel
theorem dX6_drop_65 : decode cX6_drop 65 = .ok (.imul, 1) := by decide +kernel
theorem dX6_drop_66 : decode cX6_drop 66 = .ok (.aload_n 0, 1) := by decide +kernel
theorem dX6_drop_67 : decode cX6_drop 67 = .ok (.getfield 33, 3) := by decide +kernel
theorem dX6_drop_70 : decode cX6_drop 70 = .ok (.invokevirtual 108, 3) := by decide +kernel
theorem dX6_drop_73 : decode cX6_drop 73 = .ok (.if_icmp .le 27, 3) := by decide +kernel
theorem dX6_drop_76 : decode cX6_drop 76 = .ok (.aload_n 0, 1) := by decide +kernel
theorem dX6_drop_77 : decode cX6_drop 77 = .ok (.dup, 1) := by decide +kernel
theorem dX6_drop_78 : decode cX6_drop 78 = .ok (.getfield 111, 3) := by decide +kernel
theorem dX6_drop_81 : decode cX6_drop 81 = .ok (.iconst 1, 1) := by decide +kernel
theorem dX6_drop_82 : decode cX6_drop 82 = .ok (.iadd, 1) := by decide +kernel
theorem dX6_drop_83 : decode cX6_drop 83 = .ok (.putfield 111, 3) := by decide +kernel
theorem dX6_drop_86 : decode cX6_drop 86 = .ok (.aload_n 0, 1) := by decide +kernel
theorem dX6_drop_87 : decode cX6_drop 87 = .ok (.getfield 33, 3) := by decide +kernel
theorem dX6_drop_90 : decode cX6_drop 90 = .ok (.aload_n 0, 1) := by decide +kernel
theorem dX6_drop_91 : decode cX6_drop 91 = .ok (.getfield 33, 3) := by decide +kernel
theorem dX6_drop_94 : decode cX6_drop 94 = .ok (.getfield 114, 3) := by decide +kernel
theorem dX6_drop_97 : decode cX6_drop 97 = .ok (.invokevirtual 93, 3) := by decide +kernel
theorem dX6_drop_100 : decode cX6_drop 100 = .ok (.aload_n 0, 1) := by decide +kernel
theorem dX6_drop_101 : decode cX6_drop 101 = .ok (.getfield 66, 3) := by decide +kernel
theorem dX6_drop_104 : decode cX6_drop 104 = .ok (.ireturn, 1) := by decide +kernel
theorem dX6_at_0 : decode cX6_at 0 = .ok (.iload_n 1, 1) := by decide +kernel
theorem dX6_at_1 : decode cX6_at 1 = .ok (.invokestatic 51, 3) := by decide +kernel
theorem dX6_at_4 : decode cX6_at 4 = .ok (.ifCond .eq 12, 3) := by decide +kernel
theorem dX6_at_7 : decode cX6_at 7 = .ok (.iload_n 2, 1) := by decide +kernel
theorem dX6_at_8 : decode cX6_at 8 = .ok (.ifCond .lt 8, 3) := by decide +kernel
theorem dX6_at_11 : decode cX6_at 11 = .ok (.iload_n 2, 1) := by decide +kernel
theorem dX6_at_12 : decode cX6_at 12 = .ok (.iconst 4, 1) := by decide +kernel
theorem dX6_at_13 : decode cX6_at 13 = .ok (.if_icmp .lt 13, 3) := by decide +kernel
theorem dX6_at_16 : decode cX6_at 16 = .ok (.new 59, 3) := by decide +kernel
theorem dX6_at_19 : decode cX6_at 19 = .ok (.dup, 1) := by decide +kernel
theorem dX6_at_20 : decode cX6_at 20 = .ok (.ldc 118, 2) := by decide +kernel
theorem dX6_at_22 : decode cX6_at 22 = .ok (.invokespecial 63, 3) := by decide +kernel
theorem dX6_at_25 : decode cX6_at 25 = .ok (.athrow, 1) := by decide +kernel
theorem dX6_at_26 : decode cX6_at 26 = .ok (.aload_n 0, 1) := by decide +kernel
theorem dX6_at_27 : decode cX6_at 27 = .ok (.getfield 24, 3) := by decide +kernel
theorem dX6_at_30 : decode cX6_at 30 = .ok (.iload_n 1, 1) := by decide +kernel
theorem dX6_at_31 : decode cX6_at 31 = .ok (.aaload, 1) := by decide +kernel
theorem dX6_at_32 : decode cX6_at 32 = .ok (.astore_n 3, 1) := by decide +kernel
theorem dX6_at_33 : decode cX6_at 33 = .ok (.aload_n 3, 1) := by decide +kernel
theorem dX6_at_34 : decode cX6_at 34 = .ok (.ifnonnull 13, 3) := by decide +kernel
theorem dX6_at_37 : decode cX6_at 37 = .ok (.new 69, 3) := by decide +kernel
theorem dX6_at_40 : decode cX6_at 40 = .ok (.dup, 1) := by decide +kernel
theorem dX6_at_41 : decode cX6_at 41 = .ok (.ldc 120, 2) := by decide +kernel
theorem dX6_at_43 : decode cX6_at 43 = .ok (.invokespecial 73, 3) := by decide +kernel
theorem dX6_at_46 : decode cX6_at 46 = .ok (.athrow, 1) := by decide +kernel
theorem dX6_at_47 : decode cX6_at 47 = .ok (.aload_n 3, 1) := by decide +kernel
theorem dX6_at_48 : decode cX6_at 48 = .ok (.getfield 122, 3) := by decide +kernel
theorem dX6_at_51 : decode cX6_at 51 = .ok (.iload_n 2, 1) := by decide +kernel
theorem dX6_at_52 : decode cX6_at 52 = .ok (.invokevirtual 126, 3) := by decide +kernel
theorem dX6_at_55 : decode cX6_at 55 = .ok (.ireturn, 1) := by decide +kernel
theorem dX6_nearest_0 : decode cX6_nearest 0 = .ok (.iload_n 1, 1) := by decide +kernel
theorem dX6_nearest_1 : decode cX6_nearest 1 = .ok (.ifCond .lt 22, 3) := by decide +kernel
theorem dX6_nearest_4 : decode cX6_nearest 4 = .ok (.iload_n 1, 1) := by decide +kernel
theorem dX6_nearest_5 : decode cX6_nearest 5 = .ok (.bipush 100, 2) := by decide +kernel
theorem dX6_nearest_7 : decode cX6_nearest 7 = .ok (.if_icmp .gt 16, 3) := by decide +kernel
theorem dX6_nearest_10 : decode cX6_nearest 10 = .ok (.aload_n 0, 1) := by decide +kernel
theorem dX6_nearest_11 : decode cX6_nearest 11 = .ok (.iload_n 2, 1) := by decide +kernel
theorem dX6_nearest_12 : decode cX6_nearest 12 = .ok (.iload_n 3, 1) := by decide +kernel
theorem dX6_nearest_13 : decode cX6_nearest 13 = .ok (.iload 4, 2) := by decide +kernel
theorem dX6_nearest_15 : decode cX6_nearest 15 = .ok (.iload 5, 2) := by decide +kernel
theorem dX6_nearest_17 : decode cX6_nearest 17 = .ok (.invokevirtual 55, 3) := by decide +kernel
theorem dX6_nearest_20 : decode cX6_nearest 20 = .ok (.ifCond .ne 13, 3) := by decide +kernel
theorem dX6_nearest_23 : decode cX6_nearest 23 = .ok (.new 59, 3) := by decide +kernel
theorem dX6_nearest_26 : decode cX6_nearest 26 = .ok (.dup, 1) := by decide +kernel
theorem dX6_nearest_27 : decode cX6_nearest 27 = .ok (.ldc 130, 2) := by decide +kernel
theorem dX6_nearest_29 : decode cX6_nearest 29 = .ok (.invokespecial 63, 3) := by decide +kernel
theorem dX6_nearest_32 : decode cX6_nearest 32 = .ok (.athrow, 1) := by decide +kernel
theorem dX6_nearest_33 : decode cX6_nearest 33 = .ok (.aload_n 0, 1) := by decide +kernel
theorem dX6_nearest_34 : decode cX6_nearest 34 = .ok (.getfield 40, 3) := by decide +kernel
theorem dX6_nearest_37 : decode cX6_nearest 37 = .ok (.iload_n 1, 1) := by decide +kernel
theorem dX6_nearest_38 : decode cX6_nearest 38 = .ok (.invokevirtual 132, 3) := by decide +kernel
theorem dX6_nearest_41 : decode cX6_nearest 41 = .ok (.new 135, 3) := by decide +kernel
theorem dX6_nearest_44 : decode cX6_nearest 44 = .ok (.dup, 1) := by decide +kernel
theorem dX6_nearest_45 : decode cX6_nearest 45 = .ok (.new 74, 3) := by decide +kernel
theorem dX6_nearest_48 : decode cX6_nearest 48 = .ok (.dup, 1) := by decide +kernel
theorem dX6_nearest_49 : decode cX6_nearest 49 = .ok (.aload_n 0, 1) := by decide +kernel
theorem dX6_nearest_50 : decode cX6_nearest 50 = .ok (.getfield 18, 3) := by decide +kernel
theorem dX6_nearest_53 : decode cX6_nearest 53 = .ok (.iload_n 2, 1) := by decide +kernel
theorem dX6_nearest_54 : decode cX6_nearest 54 = .ok (.iload_n 3, 1) := by decide +kernel
theorem dX6_nearest_55 : decode cX6_nearest 55 = .ok (.iload 4, 2) := by decide +kernel
theorem dX6_nearest_57 : decode cX6_nearest 57 = .ok (.iload 5, 2) := by decide +kernel
theorem dX6_nearest_59 : decode cX6_nearest 59 = .ok (.invokespecial 76, 3) := by decide +kernel
theorem dX6_nearest_62 : decode cX6_nearest 62 = .ok (.aload_n 0, 1) := by decide +kernel
theorem dX6_nearest_63 : decode cX6_nearest 63 = .ok (.getfield 40, 3) := by decide +kernel
theorem dX6_nearest_66 : decode cX6_nearest 66 = .ok (.invokespecial 137, 3) := by decide +kernel
theorem dX6_nearest_69 : decode cX6_nearest 69 = .ok (.astore 6, 2) := by decide +kernel
theorem dX6_nearest_71 : decode cX6_nearest 71 = .ok (.aload 6, 2) := by decide +kernel
theorem dX6_nearest_73 : decode cX6_nearest 73 = .ok (.aload_n 0, 1) := by decide +kernel
theorem dX6_nearest_74 : decode cX6_nearest 74 = .ok (.getfield 33, 3) := by decide +kernel
theorem dX6_nearest_77 : decode cX6_nearest 77 = .ok (.getfield 114, 3) := by decide +kernel
theorem dX6_nearest_80 : decode cX6_nearest 80 = .ok (.invokevirtual 140, 3) := by decide +kernel
theorem dX6_nearest_83 : decode cX6_nearest 83 = .ok (.aload_n 0, 1) := by decide +kernel
theorem dX6_nearest_84 : decode cX6_nearest 84 = .ok (.aload 6, 2) := by decide +kernel
theorem dX6_nearest_86 : decode cX6_nearest 86 = .ok (.getfield 143, 3) := by decide +kernel
theorem dX6_nearest_89 : decode cX6_nearest 89 = .ok (.putfield 146, 3) := by decide +kernel
theorem dX6_nearest_92 : decode cX6_nearest 92 = .ok (.aload_n 0, 1) := by decide +kernel
theorem dX6_nearest_93 : decode cX6_nearest 93 = .ok (.getfield 40, 3) := by decide +kernel
theorem dX6_nearest_96 : decode cX6_nearest 96 = .ok (.getfield 149, 3) := by decide +kernel
theorem dX6_nearest_99 : decode cX6_nearest 99 = .ok (.ireturn, 1) := by decide +kernel
theorem dX6_within_0 : decode cX6_within 0 = .ok (.lload_n 1, 1) := by decide +kernel
theorem dX6_within_1 : decode cX6_within 1 = .ok (.lconst 0, 1) := by decide +kernel
theorem dX6_within_2 : decode cX6_within 2 = .ok (.lcmp, 1) := by decide +kernel
theorem dX6_within_3 : decode cX6_within 3 = .ok (.ifCond .lt 17, 3) := by decide +kernel
theorem dX6_within_6 : decode cX6_within 6 = .ok (.aload_n 0, 1) := by decide +kernel
theorem dX6_within_7 : decode cX6_within 7 = .ok (.iload_n 3, 1) := by decide +kernel
theorem dX6_within_8 : decode cX6_within 8 = .ok (.iload 4, 2) := by decide +kernel
theorem dX6_within_10 : decode cX6_within 10 = .ok (.iload 5, 2) := by decide +kernel
theorem dX6_within_12 : decode cX6_within 12 = .ok (.iload 6, 2) := by decide +kernel
theorem dX6_within_14 : decode cX6_within 14 = .ok (.invokevirtual 55, 3) := by decide +kernel
theorem dX6_within_17 : decode cX6_within 17 = .ok (.ifCond .ne 13, 3) := by decide +kernel
theorem dX6_within_20 : decode cX6_within 20 = .ok (.new 59, 3) := by decide +kernel
theorem dX6_within_23 : decode cX6_within 23 = .ok (.dup, 1) := by decide +kernel
theorem dX6_within_24 : decode cX6_within 24 = .ok (.ldc 152, 2) := by decide +kernel
theorem dX6_within_26 : decode cX6_within 26 = .ok (.invokespecial 63, 3) := by decide +kernel
theorem dX6_within_29 : decode cX6_within 29 = .ok (.athrow, 1) := by decide +kernel
theorem dX6_within_30 : decode cX6_within 30 = .ok (.new 74, 3) := by decide +kernel
theorem dX6_within_33 : decode cX6_within 33 = .ok (.dup, 1) := by decide +kernel
theorem dX6_within_34 : decode cX6_within 34 = .ok (.aload_n 0, 1) := by decide +kernel
theorem dX6_within_35 : decode cX6_within 35 = .ok (.getfield 18, 3) := by decide +kernel
theorem dX6_within_38 : decode cX6_within 38 = .ok (.iload_n 3, 1) := by decide +kernel
theorem dX6_within_39 : decode cX6_within 39 = .ok (.iload 4, 2) := by decide +kernel
theorem dX6_within_41 : decode cX6_within 41 = .ok (.iload 5, 2) := by decide +kernel
theorem dX6_within_43 : decode cX6_within 43 = .ok (.iload 6, 2) := by decide +kernel
theorem dX6_within_45 : decode cX6_within 45 = .ok (.invokespecial 76, 3) := by decide +kernel
theorem dX6_within_48 : decode cX6_within 48 = .ok (.astore 7, 2) := by decide +kernel
theorem dX6_within_50 : decode cX6_within 50 = .ok (.aload_n 0, 1) := by decide +kernel
theorem dX6_within_51 : decode cX6_within 51 = .ok (.getfield 40, 3) := by decide +kernel
theorem dX6_within_54 : decode cX6_within 54 = .ok (.bipush 60, 2) := by decide +kernel
theorem dX6_within_56 : decode cX6_within 56 = .ok (.invokevirtual 132, 3) := by decide +kernel
theorem dX6_within_59 : decode cX6_within 59 = .ok (.aload_n 0, 1) := by decide +kernel
theorem dX6_within_60 : decode cX6_within 60 = .ok (.getfield 24, 3) := by decide +kernel
theorem dX6_within_63 : decode cX6_within 63 = .ok (.astore 8, 2) := by decide +kernel
theorem dX6_within_65 : decode cX6_within 65 = .ok (.aload 8, 2) := by decide +kernel
theorem dX6_within_67 : decode cX6_within 67 = .ok (.arraylength, 1) := by decide +kernel
theorem dX6_within_68 : decode cX6_within 68 = .ok (.istore 9, 2) := by decide +kernel
theorem dX6_within_70 : decode cX6_within 70 = .ok (.iconst 0, 1) := by decide +kernel
theorem dX6_within_71 : decode cX6_within 71 = .ok (.istore 10, 2) := by decide +kernel
theorem dX6_within_73 : decode cX6_within 73 = .ok (.iload 10, 2) := by decide +kernel
theorem dX6_within_75 : decode cX6_within 75 = .ok (.iload 9, 2) := by decide +kernel
theorem dX6_within_77 : decode cX6_within 77 = .ok (.if_icmp .ge 54, 3) := by decide +kernel
theorem dX6_within_80 : decode cX6_within 80 = .ok (.aload 8, 2) := by decide +kernel
theorem dX6_within_82 : decode cX6_within 82 = .ok (.iload 10, 2) := by decide +kernel
theorem dX6_within_84 : decode cX6_within 84 = .ok (.aaload, 1) := by decide +kernel
theorem dX6_within_85 : decode cX6_within 85 = .ok (.astore 11, 2) := by decide +kernel
theorem dX6_within_87 : decode cX6_within 87 = .ok (.aload 11, 2) := by decide +kernel
theorem dX6_within_89 : decode cX6_within 89 = .ok (.ifnull 36, 3) := by decide +kernel
theorem dX6_within_92 : decode cX6_within 92 = .ok (.aload 11, 2) := by decide +kernel
theorem dX6_within_94 : decode cX6_within 94 = .ok (.getfield 122, 3) := by decide +kernel
theorem dX6_within_97 : decode cX6_within 97 = .ok (.aload 7, 2) := by decide +kernel
theorem dX6_within_99 : decode cX6_within 99 = .ok (.invokevirtual 154, 3) := by decide +kernel
theorem dX6_within_102 : decode cX6_within 102 = .ok (.lstore 12, 2) := by decide +kernel
theorem dX6_within_104 : decode cX6_within 104 = .ok (.lload 12, 2) := by decide +kernel
theorem dX6_within_106 : decode cX6_within 106 = .ok (.lload_n 1, 1) := by decide +kernel
theorem dX6_within_107 : decode cX6_within 107 = .ok (.lcmp, 1) := by decide +kernel
theorem dX6_within_108 : decode cX6_within 108 = .ok (.ifCond .gt 17, 3) := by decide +kernel
theorem dX6_within_111 : decode cX6_within 111 = .ok (.aload_n 0, 1) := by decide +kernel
theorem dX6_within_112 : decode cX6_within 112 = .ok (.getfield 40, 3) := by decide +kernel
theorem dX6_within_115 : decode cX6_within 115 = .ok (.aload 11, 2) := by decide +kernel
theorem dX6_within_117 : decode cX6_within 117 = .ok (.getfield 158, 3) := by decide +kernel
theorem dX6_within_120 : decode cX6_within 120 = .ok (.lload 12, 2) := by decide +kernel
theorem dX6_within_122 : decode cX6_within 122 = .ok (.invokevirtual 161, 3) := by decide +kernel
theorem dX6_within_125 : decode cX6_within 125 = .ok (.iinc 10 1, 3) := by decide +kernel
theorem dX6_within_128 : decode cX6_within 128 = .ok (.goto (-55), 3) := by decide +kernel
theorem dX6_within_131 : decode cX6_within 131 = .ok (.aload_n 0, 1) := by decide +kernel
theorem dX6_within_132 : decode cX6_within 132 = .ok (.getfield 40, 3) := by decide +kernel
theorem dX6_within_135 : decode cX6_within 135 = .ok (.getfield 149, 3) := by decide +kernel
theorem dX6_within_138 : decode cX6_within 138 = .ok (.ireturn, 1) := by decide +kernel
theorem dX6_listed_0 : decode cX6_listed 0 = .ok (.aload_n 0, 1) := by decide +kernel
theorem dX6_listed_1 : decode cX6_listed 1 = .ok (.getfield 40, 3) := by decide +kernel
theorem dX6_listed_4 : decode cX6_listed 4 = .ok (.iload_n 1, 1) := by decide +kernel
theorem dX6_listed_5 : decode cX6_listed 5 = .ok (.invokevirtual 165, 3) := by decide +kernel
theorem dX6_listed_8 : decode cX6_listed 8 = .ok (.ifCond .ne 13, 3) := by decide +kernel
theorem dX6_listed_11 : decode cX6_listed 11 = .ok (.new 168, 3) := by decide +kernel
theorem dX6_listed_14 : decode cX6_listed 14 = .ok (.dup, 1) := by decide +kernel
theorem dX6_listed_15 : decode cX6_listed 15 = .ok (.ldc 170, 2) := by decide +kernel
theorem dX6_listed_17 : decode cX6_listed 17 = .ok (.invokespecial 172, 3) := by decide +kernel
theorem dX6_listed_20 : decode cX6_listed 20 = .ok (.athrow, 1) := by decide +kernel
theorem dX6_listed_21 : decode cX6_listed 21 = .ok (.aload_n 0, 1) := by decide +kernel
theorem dX6_listed_22 : decode cX6_listed 22 = .ok (.getfield 40, 3) := by decide +kernel
theorem dX6_listed_25 : decode cX6_listed 25 = .ok (.getfield 173, 3) := by decide +kernel
theorem dX6_listed_28 : decode cX6_listed 28 = .ok (.iload_n 1, 1) := by decide +kernel
theorem dX6_listed_29 : decode cX6_listed 29 = .ok (.iaload, 1) := by decide +kernel
theorem dX6_listed_30 : decode cX6_listed 30 = .ok (.ireturn, 1) := by decide +kernel
theorem dX6_distance_0 : decode cX6_distance 0 = .ok (.aload_n 0, 1) := by decide +kernel
theorem dX6_distance_1 : decode cX6_distance 1 = .ok (.getfield 40, 3) := by decide +kernel
theorem dX6_distance_4 : decode cX6_distance 4 = .ok (.iload_n 1, 1) := by decide +kernel
theorem dX6_distance_5 : decode cX6_distance 5 = .ok (.invokevirtual 165, 3) := by decide +kernel
theorem dX6_distance_8 : decode cX6_distance 8 = .ok (.ifCond .ne 13, 3) := by decide +kernel
theorem dX6_distance_11 : decode cX6_distance 11 = .ok (.new 168, 3) := by decide +kernel
theorem dX6_distance_14 : decode cX6_distance 14 = .ok (.dup, 1) := by decide +kernel
theorem dX6_distance_15 : decode cX6_distance 15 = .ok (.ldc 177, 2) := by decide +kernel
theorem dX6_distance_17 : decode cX6_distance 17 = .ok (.invokespecial 172, 3) := by decide +kernel
theorem dX6_distance_20 : decode cX6_distance 20 = .ok (.athrow, 1) := by decide +kernel
theorem dX6_distance_21 : decode cX6_distance 21 = .ok (.aload_n 0, 1) := by decide +kernel
theorem dX6_distance_22 : decode cX6_distance 22 = .ok (.getfield 40, 3) := by decide +kernel
theorem dX6_distance_25 : decode cX6_distance 25 = .ok (.getfield 179, 3) := by decide +kernel
theorem dX6_distance_28 : decode cX6_distance 28 = .ok (.iload_n 1, 1) := by decide +kernel
theorem dX6_distance_29 : decode cX6_distance 29 = .ok (.laload, 1) := by decide +kernel
theorem dX6_distance_30 : decode cX6_distance 30 = .ok (.lreturn, 1) := by decide +kernel
theorem dX6_looked_0 : decode cX6_looked 0 = .ok (.aload_n 0, 1) := by decide +kernel
theorem dX6_looked_1 : decode cX6_looked 1 = .ok (.getfield 146, 3) := by decide +kernel
theorem dX6_looked_4 : decode cX6_looked 4 = .ok (.ireturn, 1) := by decide +kernel
theorem dX6_inBox_0 : decode cX6_inBox 0 = .ok (.aload_n 0, 1) := by decide +kernel
theorem dX6_inBox_1 : decode cX6_inBox 1 = .ok (.iload_n 1, 1) := by decide +kernel
theorem dX6_inBox_2 : decode cX6_inBox 2 = .ok (.invokevirtual 183, 3) := by decide +kernel
theorem dX6_inBox_5 : decode cX6_inBox 5 = .ok (.ifCond .eq 12, 3) := by decide +kernel
theorem dX6_inBox_8 : decode cX6_inBox 8 = .ok (.aload_n 0, 1) := by decide +kernel
theorem dX6_inBox_9 : decode cX6_inBox 9 = .ok (.iload 4, 2) := by decide +kernel
theorem dX6_inBox_11 : decode cX6_inBox 11 = .ok (.invokevirtual 183, 3) := by decide +kernel
theorem dX6_inBox_14 : decode cX6_inBox 14 = .ok (.ifCond .ne 13, 3) := by decide +kernel
theorem dX6_inBox_17 : decode cX6_inBox 17 = .ok (.new 59, 3) := by decide +kernel
theorem dX6_inBox_20 : decode cX6_inBox 20 = .ok (.dup, 1) := by decide +kernel
theorem dX6_inBox_21 : decode cX6_inBox 21 = .ok (.ldc 186, 2) := by decide +kernel
theorem dX6_inBox_23 : decode cX6_inBox 23 = .ok (.invokespecial 63, 3) := by decide +kernel
theorem dX6_inBox_26 : decode cX6_inBox 26 = .ok (.athrow, 1) := by decide +kernel
theorem dX6_inBox_27 : decode cX6_inBox 27 = .ok (.iconst 0, 1) := by decide +kernel
theorem dX6_inBox_28 : decode cX6_inBox 28 = .ok (.istore 7, 2) := by decide +kernel
theorem dX6_inBox_30 : decode cX6_inBox 30 = .ok (.aload_n 0, 1) := by decide +kernel
theorem dX6_inBox_31 : decode cX6_inBox 31 = .ok (.getfield 24, 3) := by decide +kernel
theorem dX6_inBox_34 : decode cX6_inBox 34 = .ok (.astore 8, 2) := by decide +kernel
theorem dX6_inBox_36 : decode cX6_inBox 36 = .ok (.aload 8, 2) := by decide +kernel
theorem dX6_inBox_38 : decode cX6_inBox 38 = .ok (.arraylength, 1) := by decide +kernel
theorem dX6_inBox_39 : decode cX6_inBox 39 = .ok (.istore 9, 2) := by decide +kernel
theorem dX6_inBox_41 : decode cX6_inBox 41 = .ok (.iconst 0, 1) := by decide +kernel
theorem dX6_inBox_42 : decode cX6_inBox 42 = .ok (.istore 10, 2) := by decide +kernel
theorem dX6_inBox_44 : decode cX6_inBox 44 = .ok (.iload 10, 2) := by decide +kernel
theorem dX6_inBox_46 : decode cX6_inBox 46 = .ok (.iload 9, 2) := by decide +kernel
theorem dX6_inBox_48 : decode cX6_inBox 48 = .ok (.if_icmp .ge 55, 3) := by decide +kernel
theorem dX6_inBox_51 : decode cX6_inBox 51 = .ok (.aload 8, 2) := by decide +kernel
theorem dX6_inBox_53 : decode cX6_inBox 53 = .ok (.iload 10, 2) := by decide +kernel
theorem dX6_inBox_55 : decode cX6_inBox 55 = .ok (.aaload, 1) := by decide +kernel
theorem dX6_inBox_56 : decode cX6_inBox 56 = .ok (.astore 11, 2) := by decide +kernel
theorem dX6_inBox_58 : decode cX6_inBox 58 = .ok (.aload 11, 2) := by decide +kernel
theorem dX6_inBox_60 : decode cX6_inBox 60 = .ok (.ifnull 37, 3) := by decide +kernel
theorem dX6_inBox_63 : decode cX6_inBox 63 = .ok (.aload 11, 2) := by decide +kernel
theorem dX6_inBox_65 : decode cX6_inBox 65 = .ok (.getfield 122, 3) := by decide +kernel
theorem dX6_inBox_68 : decode cX6_inBox 68 = .ok (.iload_n 1, 1) := by decide +kernel
theorem dX6_inBox_69 : decode cX6_inBox 69 = .ok (.iload_n 2, 1) := by decide +kernel
theorem dX6_inBox_70 : decode cX6_inBox 70 = .ok (.iload_n 3, 1) := by decide +kernel
theorem dX6_inBox_71 : decode cX6_inBox 71 = .ok (.invokevirtual 188, 3) := by decide +kernel
theorem dX6_inBox_74 : decode cX6_inBox 74 = .ok (.ifCond .eq 23, 3) := by decide +kernel
theorem dX6_inBox_77 : decode cX6_inBox 77 = .ok (.aload 11, 2) := by decide +kernel
theorem dX6_inBox_79 : decode cX6_inBox 79 = .ok (.getfield 122, 3) := by decide +kernel
theorem dX6_inBox_82 : decode cX6_inBox 82 = .ok (.iload 4, 2) := by decide +kernel
theorem dX6_inBox_84 : decode cX6_inBox 84 = .ok (.iload 5, 2) := by decide +kernel
theorem dX6_inBox_86 : decode cX6_inBox 86 = .ok (.iload 6, 2) := by decide +kernel
theorem dX6_inBox_88 : decode cX6_inBox 88 = .ok (.invokevirtual 188, 3) := by decide +kernel
theorem dX6_inBox_91 : decode cX6_inBox 91 = .ok (.ifCond .eq 6, 3) := by decide +kernel
theorem dX6_inBox_94 : decode cX6_inBox 94 = .ok (.iinc 7 1, 3) := by decide +kernel
theorem dX6_inBox_97 : decode cX6_inBox 97 = .ok (.iinc 10 1, 3) := by decide +kernel
theorem dX6_inBox_100 : decode cX6_inBox 100 = .ok (.goto (-56), 3) := by decide +kernel
theorem dX6_inBox_103 : decode cX6_inBox 103 = .ok (.iload 7, 2) := by decide +kernel
theorem dX6_inBox_105 : decode cX6_inBox 105 = .ok (.ireturn, 1) := by decide +kernel
theorem dX6_pair_0 : decode cX6_pair 0 = .ok (.iload_n 1, 1) := by decide +kernel
theorem dX6_pair_1 : decode cX6_pair 1 = .ok (.ifCond .lt 8, 3) := by decide +kernel
theorem dX6_pair_4 : decode cX6_pair 4 = .ok (.iload_n 1, 1) := by decide +kernel
theorem dX6_pair_5 : decode cX6_pair 5 = .ok (.iconst 2, 1) := by decide +kernel
theorem dX6_pair_6 : decode cX6_pair 6 = .ok (.if_icmp .le 13, 3) := by decide +kernel
theorem dX6_pair_9 : decode cX6_pair 9 = .ok (.new 59, 3) := by decide +kernel
theorem dX6_pair_12 : decode cX6_pair 12 = .ok (.dup, 1) := by decide +kernel
theorem dX6_pair_13 : decode cX6_pair 13 = .ok (.ldc 192, 2) := by decide +kernel
theorem dX6_pair_15 : decode cX6_pair 15 = .ok (.invokespecial 63, 3) := by decide +kernel
theorem dX6_pair_18 : decode cX6_pair 18 = .ok (.athrow, 1) := by decide +kernel
theorem dX6_pair_19 : decode cX6_pair 19 = .ok (.aload_n 0, 1) := by decide +kernel
theorem dX6_pair_20 : decode cX6_pair 20 = .ok (.getfield 66, 3) := by decide +kernel
theorem dX6_pair_23 : decode cX6_pair 23 = .ok (.iconst 2, 1) := by decide +kernel
theorem dX6_pair_24 : decode cX6_pair 24 = .ok (.if_icmp .ge 13, 3) := by decide +kernel
theorem dX6_pair_27 : decode cX6_pair 27 = .ok (.new 69, 3) := by decide +kernel
theorem dX6_pair_30 : decode cX6_pair 30 = .ok (.dup, 1) := by decide +kernel
theorem dX6_pair_31 : decode cX6_pair 31 = .ok (.ldc 194, 2) := by decide +kernel
theorem dX6_pair_33 : decode cX6_pair 33 = .ok (.invokespecial 73, 3) := by decide +kernel
theorem dX6_pair_36 : decode cX6_pair 36 = .ok (.athrow, 1) := by decide +kernel
theorem dX6_pair_37 : decode cX6_pair 37 = .ok (.aload_n 0, 1) := by decide +kernel
theorem dX6_pair_38 : decode cX6_pair 38 = .ok (.getfield 47, 3) := by decide +kernel
theorem dX6_pair_41 : decode cX6_pair 41 = .ok (.aload_n 0, 1) := by decide +kernel
theorem dX6_pair_42 : decode cX6_pair 42 = .ok (.getfield 24, 3) := by decide +kernel
theorem dX6_pair_45 : decode cX6_pair 45 = .ok (.invokevirtual 196, 3) := by decide +kernel
theorem dX6_pair_48 : decode cX6_pair 48 = .ok (.iload_n 1, 1) := by decide +kernel
theorem dX6_pair_49 : decode cX6_pair 49 = .ok (.lookupswitch 45 #[(0, 27), (1, 36)], 27) := by decide +kernel
theorem dX6_pair_76 : decode cX6_pair 76 = .ok (.aload_n 0, 1) := by decide +kernel
theorem dX6_pair_77 : decode cX6_pair 77 = .ok (.getfield 47, 3) := by decide +kernel
theorem dX6_pair_80 : decode cX6_pair 80 = .ok (.getfield 200, 3) := by decide +kernel
theorem dX6_pair_83 : decode cX6_pair 83 = .ok (.i2l, 1) := by decide +kernel
theorem dX6_pair_84 : decode cX6_pair 84 = .ok (.lreturn, 1) := by decide +kernel
theorem dX6_pair_85 : decode cX6_pair 85 = .ok (.aload_n 0, 1) := by decide +kernel
theorem dX6_pair_86 : decode cX6_pair 86 = .ok (.getfield 47, 3) := by decide +kernel
theorem dX6_pair_89 : decode cX6_pair 89 = .ok (.getfield 203, 3) := by decide +kernel
theorem dX6_pair_92 : decode cX6_pair 92 = .ok (.i2l, 1) := by decide +kernel
theorem dX6_pair_93 : decode cX6_pair 93 = .ok (.lreturn, 1) := by decide +kernel
theorem dX6_pair_94 : decode cX6_pair 94 = .ok (.aload_n 0, 1) := by decide +kernel
theorem dX6_pair_95 : decode cX6_pair 95 = .ok (.getfield 47, 3) := by decide +kernel
theorem dX6_pair_98 : decode cX6_pair 98 = .ok (.getfield 206, 3) := by decide +kernel
theorem dX6_pair_101 : decode cX6_pair 101 = .ok (.lreturn, 1) := by decide +kernel
theorem dX6_parts_0 : decode cX6_parts 0 = .ok (.lload_n 1, 1) := by decide +kernel
theorem dX6_parts_1 : decode cX6_parts 1 = .ok (.lconst 0, 1) := by decide +kernel
theorem dX6_parts_2 : decode cX6_parts 2 = .ok (.lcmp, 1) := by decide +kernel
theorem dX6_parts_3 : decode cX6_parts 3 = .ok (.ifCond .ge 13, 3) := by decide +kernel
theorem dX6_parts_6 : decode cX6_parts 6 = .ok (.new 59, 3) := by decide +kernel
theorem dX6_parts_9 : decode cX6_parts 9 = .ok (.dup, 1) := by decide +kernel
theorem dX6_parts_10 : decode cX6_parts 10 = .ok (.ldc 210, 2) := by decide +kernel
theorem dX6_parts_12 : decode cX6_parts 12 = .ok (.invokespecial 63, 3) := by decide +kernel
theorem dX6_parts_15 : decode cX6_parts 15 = .ok (.athrow, 1) := by decide +kernel
theorem dX6_parts_16 : decode cX6_parts 16 = .ok (.aload_n 0, 1) := by decide +kernel
theorem dX6_parts_17 : decode cX6_parts 17 = .ok (.getfield 47, 3) := by decide +kernel
theorem dX6_parts_20 : decode cX6_parts 20 = .ok (.aload_n 0, 1) := by decide +kernel
theorem dX6_parts_21 : decode cX6_parts 21 = .ok (.getfield 24, 3) := by decide +kernel
theorem dX6_parts_24 : decode cX6_parts 24 = .ok (.invokevirtual 212, 3) := by decide +kernel
theorem dX6_parts_27 : decode cX6_parts 27 = .ok (.aload_n 0, 1) := by decide +kernel
theorem dX6_parts_28 : decode cX6_parts 28 = .ok (.getfield 47, 3) := by decide +kernel
theorem dX6_parts_31 : decode cX6_parts 31 = .ok (.lload_n 1, 1) := by decide +kernel
theorem dX6_parts_32 : decode cX6_parts 32 = .ok (.invokevirtual 215, 3) := by decide +kernel
theorem dX6_parts_35 : decode cX6_parts 35 = .ok (.ireturn, 1) := by decide +kernel
theorem dX6_span_0 : decode cX6_span 0 = .ok (.aload_n 0, 1) := by decide +kernel
theorem dX6_span_1 : decode cX6_span 1 = .ok (.getfield 47, 3) := by decide +kernel
theorem dX6_span_4 : decode cX6_span 4 = .ok (.aload_n 0, 1) := by decide +kernel
theorem dX6_span_5 : decode cX6_span 5 = .ok (.getfield 24, 3) := by decide +kernel
theorem dX6_span_8 : decode cX6_span 8 = .ok (.invokevirtual 212, 3) := by decide +kernel
theorem dX6_span_11 : decode cX6_span 11 = .ok (.aload_n 0, 1) := by decide +kernel
theorem dX6_span_12 : decode cX6_span 12 = .ok (.getfield 47, 3) := by decide +kernel
theorem dX6_span_15 : decode cX6_span 15 = .ok (.invokevirtual 219, 3) := by decide +kernel
theorem dX6_span_18 : decode cX6_span 18 = .ok (.lreturn, 1) := by decide +kernel
theorem dX6_node_0 : decode cX6_node 0 = .ok (.iload_n 1, 1) := by decide +kernel
theorem dX6_node_1 : decode cX6_node 1 = .ok (.invokestatic 51, 3) := by decide +kernel
theorem dX6_node_4 : decode cX6_node 4 = .ok (.ifCond .eq 12, 3) := by decide +kernel
theorem dX6_node_7 : decode cX6_node 7 = .ok (.iload_n 2, 1) := by decide +kernel
theorem dX6_node_8 : decode cX6_node 8 = .ok (.ifCond .lt 8, 3) := by decide +kernel
theorem dX6_node_11 : decode cX6_node 11 = .ok (.iload_n 2, 1) := by decide +kernel
theorem dX6_node_12 : decode cX6_node 12 = .ok (.iconst 4, 1) := by decide +kernel
theorem dX6_node_13 : decode cX6_node 13 = .ok (.if_icmp .le 13, 3) := by decide +kernel
theorem dX6_node_16 : decode cX6_node 16 = .ok (.new 59, 3) := by decide +kernel
theorem dX6_node_19 : decode cX6_node 19 = .ok (.dup, 1) := by decide +kernel
theorem dX6_node_20 : decode cX6_node 20 = .ok (.ldc 223, 2) := by decide +kernel
theorem dX6_node_22 : decode cX6_node 22 = .ok (.invokespecial 63, 3) := by decide +kernel
theorem dX6_node_25 : decode cX6_node 25 = .ok (.athrow, 1) := by decide +kernel
theorem dX6_node_26 : decode cX6_node 26 = .ok (.aload_n 0, 1) := by decide +kernel
theorem dX6_node_27 : decode cX6_node 27 = .ok (.getfield 24, 3) := by decide +kernel
theorem dX6_node_30 : decode cX6_node 30 = .ok (.iload_n 1, 1) := by decide +kernel
theorem dX6_node_31 : decode cX6_node 31 = .ok (.aaload, 1) := by decide +kernel
theorem dX6_node_32 : decode cX6_node 32 = .ok (.astore_n 3, 1) := by decide +kernel
theorem dX6_node_33 : decode cX6_node 33 = .ok (.aload_n 3, 1) := by decide +kernel
theorem dX6_node_34 : decode cX6_node 34 = .ok (.ifnonnull 13, 3) := by decide +kernel
theorem dX6_node_37 : decode cX6_node 37 = .ok (.new 69, 3) := by decide +kernel
theorem dX6_node_40 : decode cX6_node 40 = .ok (.dup, 1) := by decide +kernel
theorem dX6_node_41 : decode cX6_node 41 = .ok (.ldc 225, 2) := by decide +kernel
theorem dX6_node_43 : decode cX6_node 43 = .ok (.invokespecial 73, 3) := by decide +kernel
theorem dX6_node_46 : decode cX6_node 46 = .ok (.athrow, 1) := by decide +kernel
theorem dX6_node_47 : decode cX6_node 47 = .ok (.aload_n 3, 1) := by decide +kernel
theorem dX6_node_48 : decode cX6_node 48 = .ok (.getfield 227, 3) := by decide +kernel
theorem dX6_node_51 : decode cX6_node 51 = .ok (.astore 4, 2) := by decide +kernel
theorem dX6_node_53 : decode cX6_node 53 = .ok (.iload_n 2, 1) := by decide +kernel
theorem dX6_node_54 : decode cX6_node 54 = .ok (.tableswitch 74 0 3 #[30, 35, 40, 55], 30) := by decide +kernel
theorem dX6_node_84 : decode cX6_node 84 = .ok (.aload_n 3, 1) := by decide +kernel
theorem dX6_node_85 : decode cX6_node 85 = .ok (.getfield 230, 3) := by decide +kernel
theorem dX6_node_88 : decode cX6_node 88 = .ok (.ireturn, 1) := by decide +kernel
theorem dX6_node_89 : decode cX6_node 89 = .ok (.aload_n 3, 1) := by decide +kernel
theorem dX6_node_90 : decode cX6_node 90 = .ok (.getfield 233, 3) := by decide +kernel
theorem dX6_node_93 : decode cX6_node 93 = .ok (.ireturn, 1) := by decide +kernel
theorem dX6_node_94 : decode cX6_node 94 = .ok (.aload 4, 2) := by decide +kernel
theorem dX6_node_96 : decode cX6_node 96 = .ok (.ifnonnull 7, 3) := by decide +kernel
theorem dX6_node_99 : decode cX6_node 99 = .ok (.iconst (-1), 1) := by decide +kernel
theorem dX6_node_100 : decode cX6_node 100 = .ok (.goto 8, 3) := by decide +kernel
theorem dX6_node_103 : decode cX6_node 103 = .ok (.aload 4, 2) := by decide +kernel
theorem dX6_node_105 : decode cX6_node 105 = .ok (.getfield 158, 3) := by decide +kernel
theorem dX6_node_108 : decode cX6_node 108 = .ok (.ireturn, 1) := by decide +kernel
theorem dX6_node_109 : decode cX6_node 109 = .ok (.aload 4, 2) := by decide +kernel
theorem dX6_node_111 : decode cX6_node 111 = .ok (.ifnull 15, 3) := by decide +kernel
theorem dX6_node_114 : decode cX6_node 114 = .ok (.aload 4, 2) := by decide +kernel
theorem dX6_node_116 : decode cX6_node 116 = .ok (.getfield 100, 3) := by decide +kernel
theorem dX6_node_119 : decode cX6_node 119 = .ok (.ifCond .eq 7, 3) := by decide +kernel
theorem dX6_node_122 : decode cX6_node 122 = .ok (.iconst 1, 1) := by decide +kernel
theorem dX6_node_123 : decode cX6_node 123 = .ok (.goto 4, 3) := by decide +kernel
theorem dX6_node_126 : decode cX6_node 126 = .ok (.iconst 0, 1) := by decide +kernel
theorem dX6_node_127 : decode cX6_node 127 = .ok (.ireturn, 1) := by decide +kernel
theorem dX6_node_128 : decode cX6_node 128 = .ok (.aload 4, 2) := by decide +kernel
theorem dX6_node_130 : decode cX6_node 130 = .ok (.ifnull 16, 3) := by decide +kernel
theorem dX6_node_133 : decode cX6_node 133 = .ok (.aload 4, 2) := by decide +kernel
theorem dX6_node_135 : decode cX6_node 135 = .ok (.getfield 234, 3) := by decide +kernel
theorem dX6_node_138 : decode cX6_node 138 = .ok (.aload_n 3, 1) := by decide +kernel
theorem dX6_node_139 : decode cX6_node 139 = .ok (.if_acmp .ne 7, 3) := by decide +kernel
theorem dX6_node_142 : decode cX6_node 142 = .ok (.iconst 1, 1) := by decide +kernel
theorem dX6_node_143 : decode cX6_node 143 = .ok (.goto 4, 3) := by decide +kernel
theorem dX6_node_146 : decode cX6_node 146 = .ok (.iconst 0, 1) := by decide +kernel
theorem dX6_node_147 : decode cX6_node 147 = .ok (.ireturn, 1) := by decide +kernel
theorem dX6_walk_0 : decode cX6_walk 0 = .ok (.iload_n 1, 1) := by decide +kernel
theorem dX6_walk_1 : decode cX6_walk 1 = .ok (.ifCond .ge 7, 3) := by decide +kernel
theorem dX6_walk_4 : decode cX6_walk 4 = .ok (.aconst_null, 1) := by decide +kernel
theorem dX6_walk_5 : decode cX6_walk 5 = .ok (.goto 14, 3) := by decide +kernel
theorem dX6_walk_8 : decode cX6_walk 8 = .ok (.aload_n 0, 1) := by decide +kernel
theorem dX6_walk_9 : decode cX6_walk 9 = .ok (.getfield 33, 3) := by decide +kernel
theorem dX6_walk_12 : decode cX6_walk 12 = .ok (.getfield 114, 3) := by decide +kernel
theorem dX6_walk_15 : decode cX6_walk 15 = .ok (.iload_n 1, 1) := by decide +kernel
theorem dX6_walk_16 : decode cX6_walk 16 = .ok (.invokestatic 237, 3) := by decide +kernel
theorem dX6_walk_19 : decode cX6_walk 19 = .ok (.astore_n 2, 1) := by decide +kernel
theorem dX6_walk_20 : decode cX6_walk 20 = .ok (.aload_n 2, 1) := by decide +kernel
theorem dX6_walk_21 : decode cX6_walk 21 = .ok (.ifnonnull 13, 3) := by decide +kernel
theorem dX6_walk_24 : decode cX6_walk 24 = .ok (.new 168, 3) := by decide +kernel
theorem dX6_walk_27 : decode cX6_walk 27 = .ok (.dup, 1) := by decide +kernel
theorem dX6_walk_28 : decode cX6_walk 28 = .ok (.ldc 241, 2) := by decide +kernel
theorem dX6_walk_30 : decode cX6_walk 30 = .ok (.invokespecial 172, 3) := by decide +kernel
theorem dX6_walk_33 : decode cX6_walk 33 = .ok (.athrow, 1) := by decide +kernel
theorem dX6_walk_34 : decode cX6_walk 34 = .ok (.aload_n 2, 1) := by decide +kernel
theorem dX6_walk_35 : decode cX6_walk 35 = .ok (.getfield 100, 3) := by decide +kernel
theorem dX6_walk_38 : decode cX6_walk 38 = .ok (.ifCond .eq 13, 3) := by decide +kernel
theorem dX6_walk_41 : decode cX6_walk 41 = .ok (.aload_n 2, 1) := by decide +kernel
theorem dX6_walk_42 : decode cX6_walk 42 = .ok (.getfield 158, 3) := by decide +kernel
theorem dX6_walk_45 : decode cX6_walk 45 = .ok (.bipush 100, 2) := by decide +kernel
theorem dX6_walk_47 : decode cX6_walk 47 = .ok (.isub, 1) := by decide +kernel
theorem dX6_walk_48 : decode cX6_walk 48 = .ok (.goto 7, 3) := by decide +kernel
theorem dX6_walk_51 : decode cX6_walk 51 = .ok (.aload_n 2, 1) := by decide +kernel
theorem dX6_walk_52 : decode cX6_walk 52 = .ok (.getfield 158, 3) := by decide +kernel
theorem dX6_walk_55 : decode cX6_walk 55 = .ok (.ireturn, 1) := by decide +kernel
theorem dX6_count_0 : decode cX6_count 0 = .ok (.iload_n 1, 1) := by decide +kernel
theorem dX6_count_1 : decode cX6_count 1 = .ok (.tableswitch 96 0 7 #[47, 52, 57, 65, 70, 78, 83, 88], 47) := by decide +kernel
theorem dX6_count_48 : decode cX6_count 48 = .ok (.aload_n 0, 1) := by decide +kernel
theorem dX6_count_49 : decode cX6_count 49 = .ok (.getfield 18, 3) := by decide +kernel
theorem dX6_count_52 : decode cX6_count 52 = .ok (.ireturn, 1) := by decide +kernel
theorem dX6_count_53 : decode cX6_count 53 = .ok (.aload_n 0, 1) := by decide +kernel
theorem dX6_count_54 : decode cX6_count 54 = .ok (.getfield 66, 3) := by decide +kernel
theorem dX6_count_57 : decode cX6_count 57 = .ok (.ireturn, 1) := by decide +kernel
theorem dX6_count_58 : decode cX6_count 58 = .ok (.aload_n 0, 1) := by decide +kernel
theorem dX6_count_59 : decode cX6_count 59 = .ok (.getfield 33, 3) := by decide +kernel
theorem dX6_count_62 : decode cX6_count 62 = .ok (.invokevirtual 108, 3) := by decide +kernel
theorem dX6_count_65 : decode cX6_count 65 = .ok (.ireturn, 1) := by decide +kernel
theorem dX6_count_66 : decode cX6_count 66 = .ok (.aload_n 0, 1) := by decide +kernel
theorem dX6_count_67 : decode cX6_count 67 = .ok (.invokevirtual 104, 3) := by decide +kernel
theorem dX6_count_70 : decode cX6_count 70 = .ok (.ireturn, 1) := by decide +kernel
theorem dX6_count_71 : decode cX6_count 71 = .ok (.aload_n 0, 1) := by decide +kernel
theorem dX6_count_72 : decode cX6_count 72 = .ok (.getfield 33, 3) := by decide +kernel
theorem dX6_count_75 : decode cX6_count 75 = .ok (.invokevirtual 243, 3) := by decide +kernel
theorem dX6_count_78 : decode cX6_count 78 = .ok (.ireturn, 1) := by decide +kernel
theorem dX6_count_79 : decode cX6_count 79 = .ok (.aload_n 0, 1) := by decide +kernel
theorem dX6_count_80 : decode cX6_count 80 = .ok (.getfield 90, 3) := by decide +kernel
theorem dX6_count_83 : decode cX6_count 83 = .ok (.ireturn, 1) := by decide +kernel
theorem dX6_count_84 : decode cX6_count 84 = .ok (.aload_n 0, 1) := by decide +kernel
theorem dX6_count_85 : decode cX6_count 85 = .ok (.getfield 111, 3) := by decide +kernel
theorem dX6_count_88 : decode cX6_count 88 = .ok (.ireturn, 1) := by decide +kernel
theorem dX6_count_89 : decode cX6_count 89 = .ok (.aload_n 0, 1) := by decide +kernel
theorem dX6_count_90 : decode cX6_count 90 = .ok (.getfield 33, 3) := by decide +kernel
theorem dX6_count_93 : decode cX6_count 93 = .ok (.getfield 246, 3) := by decide +kernel
theorem dX6_count_96 : decode cX6_count 96 = .ok (.ireturn, 1) := by decide +kernel
theorem dX6_count_97 : decode cX6_count 97 = .ok (.new 59, 3) := by decide +kernel
theorem dX6_count_100 : decode cX6_count 100 = .ok (.dup, 1) := by decide +kernel
theorem dX6_count_101 : decode cX6_count 101 = .ok (.ldc 249, 2) := by decide +kernel
theorem dX6_count_103 : decode cX6_count 103 = .ok (.invokespecial 63, 3) := by decide +kernel
theorem dX6_count_106 : decode cX6_count 106 = .ok (.athrow, 1) := by decide +kernel
theorem dX6_isId_0 : decode cX6_isId 0 = .ok (.iload_n 0, 1) := by decide +kernel
theorem dX6_isId_1 : decode cX6_isId 1 = .ok (.ifCond .lt 13, 3) := by decide +kernel
theorem dX6_isId_4 : decode cX6_isId 4 = .ok (.iload_n 0, 1) := by decide +kernel
theorem dX6_isId_5 : decode cX6_isId 5 = .ok (.bipush 100, 2) := by decide +kernel
theorem dX6_isId_7 : decode cX6_isId 7 = .ok (.if_icmp .ge 7, 3) := by decide +kernel
theorem dX6_isId_10 : decode cX6_isId 10 = .ok (.iconst 1, 1) := by decide +kernel
theorem dX6_isId_11 : decode cX6_isId 11 = .ok (.goto 4, 3) := by decide +kernel
theorem dX6_isId_14 : decode cX6_isId 14 = .ok (.iconst 0, 1) := by decide +kernel
theorem dX6_isId_15 : decode cX6_isId 15 = .ok (.ireturn, 1) := by decide +kernel
theorem dX6_isCountingAxis_0 : decode cX6_isCountingAxis 0 = .ok (.iload_n 1, 1) := by decide +kernel
theorem dX6_isCountingAxis_1 : decode cX6_isCountingAxis 1 = .ok (.ifCond .lt 15, 3) := by decide +kernel
theorem dX6_isCountingAxis_4 : decode cX6_isCountingAxis 4 = .ok (.iload_n 1, 1) := by decide +kernel
theorem dX6_isCountingAxis_5 : decode cX6_isCountingAxis 5 = .ok (.aload_n 0, 1) := by decide +kernel
theorem dX6_isCountingAxis_6 : decode cX6_isCountingAxis 6 = .ok (.getfield 18, 3) := by decide +kernel
theorem dX6_isCountingAxis_9 : decode cX6_isCountingAxis 9 = .ok (.if_icmp .ge 7, 3) := by decide +kernel
theorem dX6_isCountingAxis_12 : decode cX6_isCountingAxis 12 = .ok (.iconst 1, 1) := by decide +kernel
theorem dX6_isCountingAxis_13 : decode cX6_isCountingAxis 13 = .ok (.goto 4, 3) := by decide +kernel
theorem dX6_isCountingAxis_16 : decode cX6_isCountingAxis 16 = .ok (.iconst 0, 1) := by decide +kernel
theorem dX6_isCountingAxis_17 : decode cX6_isCountingAxis 17 = .ok (.ireturn, 1) := by decide +kernel
theorem dX6_isPlace_0 : decode cX6_isPlace 0 = .ok (.iload_n 1, 1) := by decide +kernel
theorem dX6_isPlace_1 : decode cX6_isPlace 1 = .ok (.invokestatic 251, 3) := by decide +kernel
theorem dX6_isPlace_4 : decode cX6_isPlace 4 = .ok (.ifCond .eq 53, 3) := by decide +kernel
theorem dX6_isPlace_7 : decode cX6_isPlace 7 = .ok (.aload_n 0, 1) := by decide +kernel
theorem dX6_isPlace_8 : decode cX6_isPlace 8 = .ok (.getfield 18, 3) := by decide +kernel
theorem dX6_isPlace_11 : decode cX6_isPlace 11 = .ok (.iconst 2, 1) := by decide +kernel
theorem dX6_isPlace_12 : decode cX6_isPlace 12 = .ok (.if_icmp .lt 10, 3) := by decide +kernel
theorem dX6_isPlace_15 : decode cX6_isPlace 15 = .ok (.iload_n 2, 1) := by decide +kernel
theorem dX6_isPlace_16 : decode cX6_isPlace 16 = .ok (.invokestatic 251, 3) := by decide +kernel
theorem dX6_isPlace_19 : decode cX6_isPlace 19 = .ok (.ifCond .eq 38, 3) := by decide +kernel
theorem dX6_isPlace_22 : decode cX6_isPlace 22 = .ok (.aload_n 0, 1) := by decide +kernel
theorem dX6_isPlace_23 : decode cX6_isPlace 23 = .ok (.getfield 18, 3) := by decide +kernel
theorem dX6_isPlace_26 : decode cX6_isPlace 26 = .ok (.iconst 3, 1) := by decide +kernel
theorem dX6_isPlace_27 : decode cX6_isPlace 27 = .ok (.if_icmp .lt 10, 3) := by decide +kernel
theorem dX6_isPlace_30 : decode cX6_isPlace 30 = .ok (.iload_n 3, 1) := by decide +kernel
theorem dX6_isPlace_31 : decode cX6_isPlace 31 = .ok (.invokestatic 251, 3) := by decide +kernel
theorem dX6_isPlace_34 : decode cX6_isPlace 34 = .ok (.ifCond .eq 23, 3) := by decide +kernel
theorem dX6_isPlace_37 : decode cX6_isPlace 37 = .ok (.aload_n 0, 1) := by decide +kernel
theorem dX6_isPlace_38 : decode cX6_isPlace 38 = .ok (.getfield 18, 3) := by decide +kernel
theorem dX6_isPlace_41 : decode cX6_isPlace 41 = .ok (.iconst 4, 1) := by decide +kernel
theorem dX6_isPlace_42 : decode cX6_isPlace 42 = .ok (.if_icmp .lt 11, 3) := by decide +kernel
theorem dX6_isPlace_45 : decode cX6_isPlace 45 = .ok (.iload 4, 2) := by decide +kernel
theorem dX6_isPlace_47 : decode cX6_isPlace 47 = .ok (.invokestatic 251, 3) := by decide +kernel
theorem dX6_isPlace_50 : decode cX6_isPlace 50 = .ok (.ifCond .eq 7, 3) := by decide +kernel
theorem dX6_isPlace_53 : decode cX6_isPlace 53 = .ok (.iconst 1, 1) := by decide +kernel
theorem dX6_isPlace_54 : decode cX6_isPlace 54 = .ok (.goto 4, 3) := by decide +kernel
theorem dX6_isPlace_57 : decode cX6_isPlace 57 = .ok (.iconst 0, 1) := by decide +kernel
theorem dX6_isPlace_58 : decode cX6_isPlace 58 = .ok (.ireturn, 1) := by decide +kernel
theorem dX6_isNumber_0 : decode cX6_isNumber 0 = .ok (.iload_n 0, 1) := by decide +kernel
theorem dX6_isNumber_1 : decode cX6_isNumber 1 = .ok (.sipush (-10000), 3) := by decide +kernel
theorem dX6_isNumber_4 : decode cX6_isNumber 4 = .ok (.if_icmp .lt 14, 3) := by decide +kernel
theorem dX6_isNumber_7 : decode cX6_isNumber 7 = .ok (.iload_n 0, 1) := by decide +kernel
theorem dX6_isNumber_8 : decode cX6_isNumber 8 = .ok (.sipush 10000, 3) := by decide +kernel
theorem dX6_isNumber_11 : decode cX6_isNumber 11 = .ok (.if_icmp .gt 7, 3) := by decide +kernel
theorem dX6_isNumber_14 : decode cX6_isNumber 14 = .ok (.iconst 1, 1) := by decide +kernel
theorem dX6_isNumber_15 : decode cX6_isNumber 15 = .ok (.goto 4, 3) := by decide +kernel
theorem dX6_isNumber_18 : decode cX6_isNumber 18 = .ok (.iconst 0, 1) := by decide +kernel
theorem dX6_isNumber_19 : decode cX6_isNumber 19 = .ok (.ireturn, 1) := by decide +kernel
theorem dX6_deadCount_0 : decode cX6_deadCount 0 = .ok (.aload_n 0, 1) := by decide +kernel
theorem dX6_deadCount_1 : decode cX6_deadCount 1 = .ok (.getfield 33, 3) := by decide +kernel
theorem dX6_deadCount_4 : decode cX6_deadCount 4 = .ok (.invokevirtual 108, 3) := by decide +kernel
theorem dX6_deadCount_7 : decode cX6_deadCount 7 = .ok (.aload_n 0, 1) := by decide +kernel
theorem dX6_deadCount_8 : decode cX6_deadCount 8 = .ok (.getfield 66, 3) := by decide +kernel
theorem dX6_deadCount_11 : decode cX6_deadCount 11 = .ok (.isub, 1) := by decide +kernel
theorem dX6_deadCount_12 : decode cX6_deadCount 12 = .ok (.ireturn, 1) := by decide +kernel
theorem dJ9_max_7cf53_0 : decode cJ9_max_7cf53 0 = .ok (.iload_n 0, 1) := by decide +kernel
theorem dJ9_max_7cf53_1 : decode cJ9_max_7cf53 1 = .ok (.iload_n 1, 1) := by decide +kernel
theorem dJ9_max_7cf53_2 : decode cJ9_max_7cf53 2 = .ok (.if_icmp .lt 7, 3) := by decide +kernel
theorem dJ9_max_7cf53_5 : decode cJ9_max_7cf53 5 = .ok (.iload_n 0, 1) := by decide +kernel
theorem dJ9_max_7cf53_6 : decode cJ9_max_7cf53 6 = .ok (.goto 4, 3) := by decide +kernel
theorem dJ9_max_7cf53_9 : decode cJ9_max_7cf53 9 = .ok (.iload_n 1, 1) := by decide +kernel
theorem dJ9_max_7cf53_10 : decode cJ9_max_7cf53 10 = .ok (.ireturn, 1) := by decide +kernel
theorem dJ9_min_7cf53_0 : decode cJ9_min_7cf53 0 = .ok (.iload_n 0, 1) := by decide +kernel
theorem dJ9_min_7cf53_1 : decode cJ9_min_7cf53 1 = .ok (.iload_n 1, 1) := by decide +kernel
theorem dJ9_min_7cf53_2 : decode cJ9_min_7cf53 2 = .ok (.if_icmp .gt 7, 3) := by decide +kernel
theorem dJ9_min_7cf53_5 : decode cJ9_min_7cf53 5 = .ok (.iload_n 0, 1) := by decide +kernel
theorem dJ9_min_7cf53_6 : decode cJ9_min_7cf53 6 = .ok (.goto 4, 3) := by decide +kernel
theorem dJ9_min_7cf53_9 : decode cJ9_min_7cf53 9 = .ok (.iload_n 1, 1) := by decide +kernel
theorem dJ9_min_7cf53_10 : decode cJ9_min_7cf53 10 = .ok (.ireturn, 1) := by decide +kernel
theorem dJ9_min_f86c9_0 : decode cJ9_min_f86c9 0 = .ok (.lload_n 0, 1) := by decide +kernel
theorem dJ9_min_f86c9_1 : decode cJ9_min_f86c9 1 = .ok (.lload_n 2, 1) := by decide +kernel
theorem dJ9_min_f86c9_2 : decode cJ9_min_f86c9 2 = .ok (.lcmp, 1) := by decide +kernel
theorem dJ9_min_f86c9_3 : decode cJ9_min_f86c9 3 = .ok (.ifCond .gt 7, 3) := by decide +kernel
theorem dJ9_min_f86c9_6 : decode cJ9_min_f86c9 6 = .ok (.lload_n 0, 1) := by decide +kernel
theorem dJ9_min_f86c9_7 : decode cJ9_min_f86c9 7 = .ok (.goto 4, 3) := by decide +kernel
theorem dJ9_min_f86c9_10 : decode cJ9_min_f86c9 10 = .ok (.lload_n 2, 1) := by decide +kernel
theorem dJ9_min_f86c9_11 : decode cJ9_min_f86c9 11 = .ok (.lreturn, 1) := by decide +kernel
