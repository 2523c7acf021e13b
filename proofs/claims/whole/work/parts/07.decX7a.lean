theorem dX7_thrown_0 : decode cX7_thrown 0 = .ok (.aload_n 0, 1) := by decide +kernel
theorem dX7_thrown_1 : decode cX7_thrown 1 = .ok (.getfield 1, 3) := by decide +kernel
theorem dX7_thrown_4 : decode cX7_thrown 4 = .ok (.ireturn, 1) := by decide +kernel
theorem dX7_in_0 : decode cX7_in 0 = .ok (.lload_n 0, 1) := by decide +kernel
theorem dX7_in_1 : decode cX7_in 1 = .ok (.lload_n 2, 1) := by decide +kernel
theorem dX7_in_2 : decode cX7_in 2 = .ok (.lcmp, 1) := by decide +kernel
theorem dX7_in_3 : decode cX7_in 3 = .ok (.ifCond .lt 14, 3) := by decide +kernel
theorem dX7_in_6 : decode cX7_in 6 = .ok (.lload_n 0, 1) := by decide +kernel
theorem dX7_in_7 : decode cX7_in 7 = .ok (.lload 4, 2) := by decide +kernel
theorem dX7_in_9 : decode cX7_in 9 = .ok (.lcmp, 1) := by decide +kernel
theorem dX7_in_10 : decode cX7_in 10 = .ok (.ifCond .gt 7, 3) := by decide +kernel
theorem dX7_in_13 : decode cX7_in 13 = .ok (.iconst 1, 1) := by decide +kernel
theorem dX7_in_14 : decode cX7_in 14 = .ok (.goto 4, 3) := by decide +kernel
theorem dX7_in_17 : decode cX7_in 17 = .ok (.iconst 0, 1) := by decide +kernel
theorem dX7_in_18 : decode cX7_in 18 = .ok (.ireturn, 1) := by decide +kernel
theorem dX7_init_0 : decode cX7_init 0 = .ok (.aload_n 0, 1) := by decide +kernel
theorem dX7_init_1 : decode cX7_init 1 = .ok (.invokespecial 7, 3) := by decide +kernel
theorem dX7_init_4 : decode cX7_init 4 = .ok (.aload_n 0, 1) := by decide +kernel
theorem dX7_init_5 : decode cX7_init 5 = .ok (.bipush 100, 2) := by decide +kernel
theorem dX7_init_7 : decode cX7_init 7 = .ok (.newarray .boolean, 2) := by decide +kernel
theorem dX7_init_9 : decode cX7_init 9 = .ok (.putfield 13, 3) := by decide +kernel
theorem dX7_init_12 : decode cX7_init 12 = .ok (.aload_n 0, 1) := by decide +kernel
theorem dX7_init_13 : decode cX7_init 13 = .ok (.sipush 400, 3) := by decide +kernel
theorem dX7_init_16 : decode cX7_init 16 = .ok (.newarray .int, 2) := by decide +kernel
theorem dX7_init_18 : decode cX7_init 18 = .ok (.putfield 17, 3) := by decide +kernel
theorem dX7_init_21 : decode cX7_init 21 = .ok (.aload_n 0, 1) := by decide +kernel
theorem dX7_init_22 : decode cX7_init 22 = .ok (.bipush 100, 2) := by decide +kernel
theorem dX7_init_24 : decode cX7_init 24 = .ok (.newarray .int, 2) := by decide +kernel
theorem dX7_init_26 : decode cX7_init 26 = .ok (.putfield 21, 3) := by decide +kernel
theorem dX7_init_29 : decode cX7_init 29 = .ok (.aload_n 0, 1) := by decide +kernel
theorem dX7_init_30 : decode cX7_init 30 = .ok (.sipush 140, 3) := by decide +kernel
theorem dX7_init_33 : decode cX7_init 33 = .ok (.newarray .boolean, 2) := by decide +kernel
theorem dX7_init_35 : decode cX7_init 35 = .ok (.putfield 24, 3) := by decide +kernel
theorem dX7_init_38 : decode cX7_init 38 = .ok (.aload_n 0, 1) := by decide +kernel
theorem dX7_init_39 : decode cX7_init 39 = .ok (.sipush 140, 3) := by decide +kernel
theorem dX7_init_42 : decode cX7_init 42 = .ok (.newarray .int, 2) := by decide +kernel
theorem dX7_init_44 : decode cX7_init 44 = .ok (.putfield 27, 3) := by decide +kernel
theorem dX7_init_47 : decode cX7_init 47 = .ok (.aload_n 0, 1) := by decide +kernel
theorem dX7_init_48 : decode cX7_init 48 = .ok (.sipush 560, 3) := by decide +kernel
theorem dX7_init_51 : decode cX7_init 51 = .ok (.newarray .int, 2) := by decide +kernel
theorem dX7_init_53 : decode cX7_init 53 = .ok (.putfield 30, 3) := by decide +kernel
theorem dX7_init_56 : decode cX7_init 56 = .ok (.aload_n 0, 1) := by decide +kernel
theorem dX7_init_57 : decode cX7_init 57 = .ok (.sipush 140, 3) := by decide +kernel
theorem dX7_init_60 : decode cX7_init 60 = .ok (.newarray .boolean, 2) := by decide +kernel
theorem dX7_init_62 : decode cX7_init 62 = .ok (.putfield 33, 3) := by decide +kernel
theorem dX7_init_65 : decode cX7_init 65 = .ok (.aload_n 0, 1) := by decide +kernel
theorem dX7_init_66 : decode cX7_init 66 = .ok (.sipush 140, 3) := by decide +kernel
theorem dX7_init_69 : decode cX7_init 69 = .ok (.newarray .int, 2) := by decide +kernel
theorem dX7_init_71 : decode cX7_init 71 = .ok (.putfield 36, 3) := by decide +kernel
theorem dX7_init_74 : decode cX7_init 74 = .ok (.aload_n 0, 1) := by decide +kernel
theorem dX7_init_75 : decode cX7_init 75 = .ok (.sipush 140, 3) := by decide +kernel
theorem dX7_init_78 : decode cX7_init 78 = .ok (.newarray .int, 2) := by decide +kernel
theorem dX7_init_80 : decode cX7_init 80 = .ok (.putfield 39, 3) := by decide +kernel
theorem dX7_init_83 : decode cX7_init 83 = .ok (.aload_n 0, 1) := by decide +kernel
theorem dX7_init_84 : decode cX7_init 84 = .ok (.sipush 140, 3) := by decide +kernel
theorem dX7_init_87 : decode cX7_init 87 = .ok (.newarray .int, 2) := by decide +kernel
theorem dX7_init_89 : decode cX7_init 89 = .ok (.putfield 42, 3) := by decide +kernel
theorem dX7_init_92 : decode cX7_init 92 = .ok (.aload_n 0, 1) := by decide +kernel
theorem dX7_init_93 : decode cX7_init 93 = .ok (.iconst (-1), 1) := by decide +kernel
theorem dX7_init_94 : decode cX7_init 94 = .ok (.putfield 45, 3) := by decide +kernel
theorem dX7_init_97 : decode cX7_init 97 = .ok (.aload_n 0, 1) := by decide +kernel
theorem dX7_init_98 : decode cX7_init 98 = .ok (.sipush 140, 3) := by decide +kernel
theorem dX7_init_101 : decode cX7_init 101 = .ok (.newarray .int, 2) := by decide +kernel
theorem dX7_init_103 : decode cX7_init 103 = .ok (.putfield 48, 3) := by decide +kernel
theorem dX7_init_106 : decode cX7_init 106 = .ok (.aload_n 0, 1) := by decide +kernel
theorem dX7_init_107 : decode cX7_init 107 = .ok (.sipush 140, 3) := by decide +kernel
theorem dX7_init_110 : decode cX7_init 110 = .ok (.newarray .int, 2) := by decide +kernel
theorem dX7_init_112 : decode cX7_init 112 = .ok (.putfield 51, 3) := by decide +kernel
theorem dX7_init_115 : decode cX7_init 115 = .ok (.aload_n 0, 1) := by decide +kernel
theorem dX7_init_116 : decode cX7_init 116 = .ok (.bipush 100, 2) := by decide +kernel
theorem dX7_init_118 : decode cX7_init 118 = .ok (.newarray .int, 2) := by decide +kernel
theorem dX7_init_120 : decode cX7_init 120 = .ok (.putfield 54, 3) := by decide +kernel
theorem dX7_init_123 : decode cX7_init 123 = .ok (.aload_n 0, 1) := by decide +kernel
theorem dX7_init_124 : decode cX7_init 124 = .ok (.bipush 100, 2) := by decide +kernel
theorem dX7_init_126 : decode cX7_init 126 = .ok (.newarray .int, 2) := by decide +kernel
theorem dX7_init_128 : decode cX7_init 128 = .ok (.putfield 57, 3) := by decide +kernel
theorem dX7_init_131 : decode cX7_init 131 = .ok (.aload_n 0, 1) := by decide +kernel
theorem dX7_init_132 : decode cX7_init 132 = .ok (.bipush 100, 2) := by decide +kernel
theorem dX7_init_134 : decode cX7_init 134 = .ok (.newarray .int, 2) := by decide +kernel
theorem dX7_init_136 : decode cX7_init 136 = .ok (.putfield 60, 3) := by decide +kernel
theorem dX7_init_139 : decode cX7_init 139 = .ok (.aload_n 0, 1) := by decide +kernel
theorem dX7_init_140 : decode cX7_init 140 = .ok (.bipush 100, 2) := by decide +kernel
theorem dX7_init_142 : decode cX7_init 142 = .ok (.newarray .int, 2) := by decide +kernel
theorem dX7_init_144 : decode cX7_init 144 = .ok (.putfield 63, 3) := by decide +kernel
theorem dX7_init_147 : decode cX7_init 147 = .ok (.aload_n 0, 1) := by decide +kernel
theorem dX7_init_148 : decode cX7_init 148 = .ok (.bipush 100, 2) := by decide +kernel
theorem dX7_init_150 : decode cX7_init 150 = .ok (.newarray .boolean, 2) := by decide +kernel
theorem dX7_init_152 : decode cX7_init 152 = .ok (.putfield 66, 3) := by decide +kernel
theorem dX7_init_155 : decode cX7_init 155 = .ok (.aload_n 0, 1) := by decide +kernel
theorem dX7_init_156 : decode cX7_init 156 = .ok (.iconst 4, 1) := by decide +kernel
theorem dX7_init_157 : decode cX7_init 157 = .ok (.newarray .int, 2) := by decide +kernel
theorem dX7_init_159 : decode cX7_init 159 = .ok (.putfield 69, 3) := by decide +kernel
theorem dX7_init_162 : decode cX7_init 162 = .ok (.aload_n 0, 1) := by decide +kernel
theorem dX7_init_163 : decode cX7_init 163 = .ok (.bipush 100, 2) := by decide +kernel
theorem dX7_init_165 : decode cX7_init 165 = .ok (.newarray .int, 2) := by decide +kernel
theorem dX7_init_167 : decode cX7_init 167 = .ok (.putfield 72, 3) := by decide +kernel
theorem dX7_init_170 : decode cX7_init 170 = .ok (.aload_n 0, 1) := by decide +kernel
theorem dX7_init_171 : decode cX7_init 171 = .ok (.bipush 100, 2) := by decide +kernel
theorem dX7_init_173 : decode cX7_init 173 = .ok (.newarray .long, 2) := by decide +kernel
theorem dX7_init_175 : decode cX7_init 175 = .ok (.putfield 75, 3) := by decide +kernel
theorem dX7_init_178 : decode cX7_init 178 = .ok (.aload_n 0, 1) := by decide +kernel
theorem dX7_init_179 : decode cX7_init 179 = .ok (.sipush 140, 3) := by decide +kernel
theorem dX7_init_182 : decode cX7_init 182 = .ok (.newarray .boolean, 2) := by decide +kernel
theorem dX7_init_184 : decode cX7_init 184 = .ok (.putfield 79, 3) := by decide +kernel
theorem dX7_init_187 : decode cX7_init 187 = .ok (.aload_n 0, 1) := by decide +kernel
theorem dX7_init_188 : decode cX7_init 188 = .ok (.bipush 100, 2) := by decide +kernel
theorem dX7_init_190 : decode cX7_init 190 = .ok (.newarray .boolean, 2) := by decide +kernel
theorem dX7_init_192 : decode cX7_init 192 = .ok (.putfield 82, 3) := by decide +kernel
theorem dX7_init_195 : decode cX7_init 195 = .ok (.aload_n 0, 1) := by decide +kernel
theorem dX7_init_196 : decode cX7_init 196 = .ok (.iload_n 1, 1) := by decide +kernel
theorem dX7_init_197 : decode cX7_init 197 = .ok (.iconst 1, 1) := by decide +kernel
theorem dX7_init_198 : decode cX7_init 198 = .ok (.if_icmp .ge 7, 3) := by decide +kernel
theorem dX7_init_201 : decode cX7_init 201 = .ok (.iconst 1, 1) := by decide +kernel
theorem dX7_init_202 : decode cX7_init 202 = .ok (.goto 13, 3) := by decide +kernel
theorem dX7_init_205 : decode cX7_init 205 = .ok (.iload_n 1, 1) := by decide +kernel
theorem dX7_init_206 : decode cX7_init 206 = .ok (.iconst 4, 1) := by decide +kernel
theorem dX7_init_207 : decode cX7_init 207 = .ok (.if_icmp .le 7, 3) := by decide +kernel
theorem dX7_init_210 : decode cX7_init 210 = .ok (.iconst 4, 1) := by decide +kernel
theorem dX7_init_211 : decode cX7_init 211 = .ok (.goto 4, 3) := by decide +kernel
theorem dX7_init_214 : decode cX7_init 214 = .ok (.iload_n 1, 1) := by decide +kernel
theorem dX7_init_215 : decode cX7_init 215 = .ok (.putfield 85, 3) := by decide +kernel
theorem dX7_init_218 : decode cX7_init 218 = .ok (.return_, 1) := by decide +kernel
theorem dX7_isId_0 : decode cX7_isId 0 = .ok (.iload_n 0, 1) := by decide +kernel
theorem dX7_isId_1 : decode cX7_isId 1 = .ok (.i2l, 1) := by decide +kernel
theorem dX7_isId_2 : decode cX7_isId 2 = .ok (.lconst 0, 1) := by decide +kernel
theorem dX7_isId_3 : decode cX7_isId 3 = .ok (.ldc2_w 88, 3) := by decide +kernel
theorem dX7_isId_6 : decode cX7_isId 6 = .ok (.invokestatic 90, 3) := by decide +kernel
theorem dX7_isId_9 : decode cX7_isId 9 = .ok (.ireturn, 1) := by decide +kernel
theorem dX7_areNumbers_0 : decode cX7_areNumbers 0 = .ok (.iload_n 1, 1) := by decide +kernel
theorem dX7_areNumbers_1 : decode cX7_areNumbers 1 = .ok (.i2l, 1) := by decide +kernel
theorem dX7_areNumbers_2 : decode cX7_areNumbers 2 = .ok (.ldc2_w 94, 3) := by decide +kernel
theorem dX7_areNumbers_5 : decode cX7_areNumbers 5 = .ok (.ldc2_w 96, 3) := by decide +kernel
theorem dX7_areNumbers_8 : decode cX7_areNumbers 8 = .ok (.invokestatic 90, 3) := by decide +kernel
theorem dX7_areNumbers_11 : decode cX7_areNumbers 11 = .ok (.ifCond .eq 74, 3) := by decide +kernel
theorem dX7_areNumbers_14 : decode cX7_areNumbers 14 = .ok (.aload_n 0, 1) := by decide +kernel
theorem dX7_areNumbers_15 : decode cX7_areNumbers 15 = .ok (.getfield 85, 3) := by decide +kernel
theorem dX7_areNumbers_18 : decode cX7_areNumbers 18 = .ok (.iconst 2, 1) := by decide +kernel
theorem dX7_areNumbers_19 : decode cX7_areNumbers 19 = .ok (.if_icmp .lt 17, 3) := by decide +kernel
theorem dX7_areNumbers_22 : decode cX7_areNumbers 22 = .ok (.iload_n 2, 1) := by decide +kernel
theorem dX7_areNumbers_23 : decode cX7_areNumbers 23 = .ok (.i2l, 1) := by decide +kernel
theorem dX7_areNumbers_24 : decode cX7_areNumbers 24 = .ok (.ldc2_w 94, 3) := by decide +kernel
theorem dX7_areNumbers_27 : decode cX7_areNumbers 27 = .ok (.ldc2_w 96, 3) := by decide +kernel
theorem dX7_areNumbers_30 : decode cX7_areNumbers 30 = .ok (.invokestatic 90, 3) := by decide +kernel
theorem dX7_areNumbers_33 : decode cX7_areNumbers 33 = .ok (.ifCond .eq 52, 3) := by decide +kernel
theorem dX7_areNumbers_36 : decode cX7_areNumbers 36 = .ok (.aload_n 0, 1) := by decide +kernel
theorem dX7_areNumbers_37 : decode cX7_areNumbers 37 = .ok (.getfield 85, 3) := by decide +kernel
theorem dX7_areNumbers_40 : decode cX7_areNumbers 40 = .ok (.iconst 3, 1) := by decide +kernel
theorem dX7_areNumbers_41 : decode cX7_areNumbers 41 = .ok (.if_icmp .lt 17, 3) := by decide +kernel
theorem dX7_areNumbers_44 : decode cX7_areNumbers 44 = .ok (.iload_n 3, 1) := by decide +kernel
theorem dX7_areNumbers_45 : decode cX7_areNumbers 45 = .ok (.i2l, 1) := by decide +kernel
theorem dX7_areNumbers_46 : decode cX7_areNumbers 46 = .ok (.ldc2_w 94, 3) := by decide +kernel
theorem dX7_areNumbers_49 : decode cX7_areNumbers 49 = .ok (.ldc2_w 96, 3) := by decide +kernel
theorem dX7_areNumbers_52 : decode cX7_areNumbers 52 = .ok (.invokestatic 90, 3) := by decide +kernel
theorem dX7_areNumbers_55 : decode cX7_areNumbers 55 = .ok (.ifCond .eq 30, 3) := by decide +kernel
theorem dX7_areNumbers_58 : decode cX7_areNumbers 58 = .ok (.aload_n 0, 1) := by decide +kernel
theorem dX7_areNumbers_59 : decode cX7_areNumbers 59 = .ok (.getfield 85, 3) := by decide +kernel
theorem dX7_areNumbers_62 : decode cX7_areNumbers 62 = .ok (.iconst 4, 1) := by decide +kernel
theorem dX7_areNumbers_63 : decode cX7_areNumbers 63 = .ok (.if_icmp .lt 18, 3) := by decide +kernel
theorem dX7_areNumbers_66 : decode cX7_areNumbers 66 = .ok (.iload 4, 2) := by decide +kernel
theorem dX7_areNumbers_68 : decode cX7_areNumbers 68 = .ok (.i2l, 1) := by decide +kernel
theorem dX7_areNumbers_69 : decode cX7_areNumbers 69 = .ok (.ldc2_w 94, 3) := by decide +kernel
theorem dX7_areNumbers_72 : decode cX7_areNumbers 72 = .ok (.ldc2_w 96, 3) := by decide +kernel
theorem dX7_areNumbers_75 : decode cX7_areNumbers 75 = .ok (.invokestatic 90, 3) := by decide +kernel
theorem dX7_areNumbers_78 : decode cX7_areNumbers 78 = .ok (.ifCond .eq 7, 3) := by decide +kernel
theorem dX7_areNumbers_81 : decode cX7_areNumbers 81 = .ok (.iconst 1, 1) := by decide +kernel
theorem dX7_areNumbers_82 : decode cX7_areNumbers 82 = .ok (.goto 4, 3) := by decide +kernel
theorem dX7_areNumbers_85 : decode cX7_areNumbers 85 = .ok (.iconst 0, 1) := by decide +kernel
theorem dX7_areNumbers_86 : decode cX7_areNumbers 86 = .ok (.ireturn, 1) := by decide +kernel
theorem dX7_depth_0 : decode cX7_depth 0 = .ok (.iconst 0, 1) := by decide +kernel
theorem dX7_depth_1 : decode cX7_depth 1 = .ok (.istore_n 2, 1) := by decide +kernel
theorem dX7_depth_2 : decode cX7_depth 2 = .ok (.aload_n 0, 1) := by decide +kernel
theorem dX7_depth_3 : decode cX7_depth 3 = .ok (.getfield 42, 3) := by decide +kernel
theorem dX7_depth_6 : decode cX7_depth 6 = .ok (.iload_n 1, 1) := by decide +kernel
theorem dX7_depth_7 : decode cX7_depth 7 = .ok (.iaload, 1) := by decide +kernel
theorem dX7_depth_8 : decode cX7_depth 8 = .ok (.istore_n 3, 1) := by decide +kernel
theorem dX7_depth_9 : decode cX7_depth 9 = .ok (.iload_n 3, 1) := by decide +kernel
theorem dX7_depth_10 : decode cX7_depth 10 = .ok (.iconst (-1), 1) := by decide +kernel
theorem dX7_depth_11 : decode cX7_depth 11 = .ok (.if_icmp .eq 16, 3) := by decide +kernel
theorem dX7_depth_14 : decode cX7_depth 14 = .ok (.iinc 2 1, 3) := by decide +kernel
theorem dX7_depth_17 : decode cX7_depth 17 = .ok (.aload_n 0, 1) := by decide +kernel
theorem dX7_depth_18 : decode cX7_depth 18 = .ok (.getfield 42, 3) := by decide +kernel
theorem dX7_depth_21 : decode cX7_depth 21 = .ok (.iload_n 3, 1) := by decide +kernel
theorem dX7_depth_22 : decode cX7_depth 22 = .ok (.iaload, 1) := by decide +kernel
theorem dX7_depth_23 : decode cX7_depth 23 = .ok (.istore_n 3, 1) := by decide +kernel
theorem dX7_depth_24 : decode cX7_depth 24 = .ok (.goto (-15), 3) := by decide +kernel
theorem dX7_depth_27 : decode cX7_depth 27 = .ok (.iload_n 2, 1) := by decide +kernel
theorem dX7_depth_28 : decode cX7_depth 28 = .ok (.ireturn, 1) := by decide +kernel
theorem dX7_walkFrom_0 : decode cX7_walkFrom 0 = .ok (.iconst 0, 1) := by decide +kernel
theorem dX7_walkFrom_1 : decode cX7_walkFrom 1 = .ok (.istore_n 2, 1) := by decide +kernel
theorem dX7_walkFrom_2 : decode cX7_walkFrom 2 = .ok (.iconst 0, 1) := by decide +kernel
theorem dX7_walkFrom_3 : decode cX7_walkFrom 3 = .ok (.istore_n 3, 1) := by decide +kernel
theorem dX7_walkFrom_4 : decode cX7_walkFrom 4 = .ok (.iload_n 1, 1) := by decide +kernel
theorem dX7_walkFrom_5 : decode cX7_walkFrom 5 = .ok (.iconst (-1), 1) := by decide +kernel
theorem dX7_walkFrom_6 : decode cX7_walkFrom 6 = .ok (.if_icmp .eq 12, 3) := by decide +kernel
theorem dX7_walkFrom_9 : decode cX7_walkFrom 9 = .ok (.aload_n 0, 1) := by decide +kernel
theorem dX7_walkFrom_10 : decode cX7_walkFrom 10 = .ok (.getfield 51, 3) := by decide +kernel
theorem dX7_walkFrom_13 : decode cX7_walkFrom 13 = .ok (.iconst 0, 1) := by decide +kernel
theorem dX7_walkFrom_14 : decode cX7_walkFrom 14 = .ok (.iload_n 1, 1) := by decide +kernel
theorem dX7_walkFrom_15 : decode cX7_walkFrom 15 = .ok (.iastore, 1) := by decide +kernel
theorem dX7_walkFrom_16 : decode cX7_walkFrom 16 = .ok (.iconst 1, 1) := by decide +kernel
theorem dX7_walkFrom_17 : decode cX7_walkFrom 17 = .ok (.istore_n 3, 1) := by decide +kernel
theorem dX7_walkFrom_18 : decode cX7_walkFrom 18 = .ok (.iload_n 3, 1) := by decide +kernel
theorem dX7_walkFrom_19 : decode cX7_walkFrom 19 = .ok (.ifCond .le 82, 3) := by decide +kernel
theorem dX7_walkFrom_22 : decode cX7_walkFrom 22 = .ok (.iinc 3 (-1), 3) := by decide +kernel
theorem dX7_walkFrom_25 : decode cX7_walkFrom 25 = .ok (.aload_n 0, 1) := by decide +kernel
theorem dX7_walkFrom_26 : decode cX7_walkFrom 26 = .ok (.getfield 51, 3) := by decide +kernel
theorem dX7_walkFrom_29 : decode cX7_walkFrom 29 = .ok (.iload_n 3, 1) := by decide +kernel
theorem dX7_walkFrom_30 : decode cX7_walkFrom 30 = .ok (.iaload, 1) := by decide +kernel
theorem dX7_walkFrom_31 : decode cX7_walkFrom 31 = .ok (.istore 4, 2) := by decide +kernel
theorem dX7_walkFrom_33 : decode cX7_walkFrom 33 = .ok (.aload_n 0, 1) := by decide +kernel
theorem dX7_walkFrom_34 : decode cX7_walkFrom 34 = .ok (.getfield 48, 3) := by decide +kernel
theorem dX7_walkFrom_37 : decode cX7_walkFrom 37 = .ok (.iload_n 2, 1) := by decide +kernel
theorem dX7_walkFrom_38 : decode cX7_walkFrom 38 = .ok (.iload 4, 2) := by decide +kernel
theorem dX7_walkFrom_40 : decode cX7_walkFrom 40 = .ok (.iastore, 1) := by decide +kernel
theorem dX7_walkFrom_41 : decode cX7_walkFrom 41 = .ok (.iinc 2 1, 3) := by decide +kernel
theorem dX7_walkFrom_44 : decode cX7_walkFrom 44 = .ok (.aload_n 0, 1) := by decide +kernel
theorem dX7_walkFrom_45 : decode cX7_walkFrom 45 = .ok (.getfield 39, 3) := by decide +kernel
theorem dX7_walkFrom_48 : decode cX7_walkFrom 48 = .ok (.iload 4, 2) := by decide +kernel
theorem dX7_walkFrom_50 : decode cX7_walkFrom 50 = .ok (.iaload, 1) := by decide +kernel
theorem dX7_walkFrom_51 : decode cX7_walkFrom 51 = .ok (.iconst (-1), 1) := by decide +kernel
theorem dX7_walkFrom_52 : decode cX7_walkFrom 52 = .ok (.if_icmp .eq 19, 3) := by decide +kernel
theorem dX7_walkFrom_55 : decode cX7_walkFrom 55 = .ok (.aload_n 0, 1) := by decide +kernel
theorem dX7_walkFrom_56 : decode cX7_walkFrom 56 = .ok (.getfield 51, 3) := by decide +kernel
theorem dX7_walkFrom_59 : decode cX7_walkFrom 59 = .ok (.iload_n 3, 1) := by decide +kernel
theorem dX7_walkFrom_60 : decode cX7_walkFrom 60 = .ok (.aload_n 0, 1) := by decide +kernel
theorem dX7_walkFrom_61 : decode cX7_walkFrom 61 = .ok (.getfield 39, 3) := by decide +kernel
theorem dX7_walkFrom_64 : decode cX7_walkFrom 64 = .ok (.iload 4, 2) := by decide +kernel
theorem dX7_walkFrom_66 : decode cX7_walkFrom 66 = .ok (.iaload, 1) := by decide +kernel
theorem dX7_walkFrom_67 : decode cX7_walkFrom 67 = .ok (.iastore, 1) := by decide +kernel
theorem dX7_walkFrom_68 : decode cX7_walkFrom 68 = .ok (.iinc 3 1, 3) := by decide +kernel
theorem dX7_walkFrom_71 : decode cX7_walkFrom 71 = .ok (.aload_n 0, 1) := by decide +kernel
theorem dX7_walkFrom_72 : decode cX7_walkFrom 72 = .ok (.getfield 36, 3) := by decide +kernel
theorem dX7_walkFrom_75 : decode cX7_walkFrom 75 = .ok (.iload 4, 2) := by decide +kernel
theorem dX7_walkFrom_77 : decode cX7_walkFrom 77 = .ok (.iaload, 1) := by decide +kernel
theorem dX7_walkFrom_78 : decode cX7_walkFrom 78 = .ok (.iconst (-1), 1) := by decide +kernel
theorem dX7_walkFrom_79 : decode cX7_walkFrom 79 = .ok (.if_icmp .eq 19, 3) := by decide +kernel
theorem dX7_walkFrom_82 : decode cX7_walkFrom 82 = .ok (.aload_n 0, 1) := by decide +kernel
theorem dX7_walkFrom_83 : decode cX7_walkFrom 83 = .ok (.getfield 51, 3) := by decide +kernel
theorem dX7_walkFrom_86 : decode cX7_walkFrom 86 = .ok (.iload_n 3, 1) := by decide +kernel
theorem dX7_walkFrom_87 : decode cX7_walkFrom 87 = .ok (.aload_n 0, 1) := by decide +kernel
theorem dX7_walkFrom_88 : decode cX7_walkFrom 88 = .ok (.getfield 36, 3) := by decide +kernel
theorem dX7_walkFrom_91 : decode cX7_walkFrom 91 = .ok (.iload 4, 2) := by decide +kernel
theorem dX7_walkFrom_93 : decode cX7_walkFrom 93 = .ok (.iaload, 1) := by decide +kernel
theorem dX7_walkFrom_94 : decode cX7_walkFrom 94 = .ok (.iastore, 1) := by decide +kernel
theorem dX7_walkFrom_95 : decode cX7_walkFrom 95 = .ok (.iinc 3 1, 3) := by decide +kernel
theorem dX7_walkFrom_98 : decode cX7_walkFrom 98 = .ok (.goto (-80), 3) := by decide +kernel
theorem dX7_walkFrom_101 : decode cX7_walkFrom 101 = .ok (.iload_n 2, 1) := by decide +kernel
theorem dX7_walkFrom_102 : decode cX7_walkFrom 102 = .ok (.ireturn, 1) := by decide +kernel
theorem dX7_newNode_0 : decode cX7_newNode 0 = .ok (.iconst 0, 1) := by decide +kernel
theorem dX7_newNode_1 : decode cX7_newNode 1 = .ok (.istore_n 3, 1) := by decide +kernel
theorem dX7_newNode_2 : decode cX7_newNode 2 = .ok (.aload_n 0, 1) := by decide +kernel
theorem dX7_newNode_3 : decode cX7_newNode 3 = .ok (.getfield 24, 3) := by decide +kernel
theorem dX7_newNode_6 : decode cX7_newNode 6 = .ok (.iload_n 3, 1) := by decide +kernel
theorem dX7_newNode_7 : decode cX7_newNode 7 = .ok (.baload, 1) := by decide +kernel
theorem dX7_newNode_8 : decode cX7_newNode 8 = .ok (.ifCond .eq 9, 3) := by decide +kernel
theorem dX7_newNode_11 : decode cX7_newNode 11 = .ok (.iinc 3 1, 3) := by decide +kernel
theorem dX7_newNode_14 : decode cX7_newNode 14 = .ok (.goto (-12), 3) := by decide +kernel
theorem dX7_newNode_17 : decode cX7_newNode 17 = .ok (.aload_n 0, 1) := by decide +kernel
theorem dX7_newNode_18 : decode cX7_newNode 18 = .ok (.getfield 24, 3) := by decide +kernel
theorem dX7_newNode_21 : decode cX7_newNode 21 = .ok (.iload_n 3, 1) := by decide +kernel
theorem dX7_newNode_22 : decode cX7_newNode 22 = .ok (.iconst 1, 1) := by decide +kernel
theorem dX7_newNode_23 : decode cX7_newNode 23 = .ok (.bastore, 1) := by decide +kernel
theorem dX7_newNode_24 : decode cX7_newNode 24 = .ok (.aload_n 0, 1) := by decide +kernel
theorem dX7_newNode_25 : decode cX7_newNode 25 = .ok (.getfield 27, 3) := by decide +kernel
theorem dX7_newNode_28 : decode cX7_newNode 28 = .ok (.iload_n 3, 1) := by decide +kernel
theorem dX7_newNode_29 : decode cX7_newNode 29 = .ok (.iload_n 1, 1) := by decide +kernel
theorem dX7_newNode_30 : decode cX7_newNode 30 = .ok (.iastore, 1) := by decide +kernel
theorem dX7_newNode_31 : decode cX7_newNode 31 = .ok (.iconst 0, 1) := by decide +kernel
theorem dX7_newNode_32 : decode cX7_newNode 32 = .ok (.istore 4, 2) := by decide +kernel
theorem dX7_newNode_34 : decode cX7_newNode 34 = .ok (.iload 4, 2) := by decide +kernel
theorem dX7_newNode_36 : decode cX7_newNode 36 = .ok (.iconst 4, 1) := by decide +kernel
theorem dX7_newNode_37 : decode cX7_newNode 37 = .ok (.if_icmp .ge 31, 3) := by decide +kernel
theorem dX7_newNode_40 : decode cX7_newNode 40 = .ok (.aload_n 0, 1) := by decide +kernel
theorem dX7_newNode_41 : decode cX7_newNode 41 = .ok (.getfield 30, 3) := by decide +kernel
theorem dX7_newNode_44 : decode cX7_newNode 44 = .ok (.iconst 4, 1) := by decide +kernel
theorem dX7_newNode_45 : decode cX7_newNode 45 = .ok (.iload_n 3, 1) := by decide +kernel
theorem dX7_newNode_46 : decode cX7_newNode 46 = .ok (.imul, 1) := by decide +kernel
theorem dX7_newNode_47 : decode cX7_newNode 47 = .ok (.iload 4, 2) := by decide +kernel
theorem dX7_newNode_49 : decode cX7_newNode 49 = .ok (.iadd, 1) := by decide +kernel
theorem dX7_newNode_50 : decode cX7_newNode 50 = .ok (.aload_n 0, 1) := by decide +kernel
theorem dX7_newNode_51 : decode cX7_newNode 51 = .ok (.getfield 17, 3) := by decide +kernel
theorem dX7_newNode_54 : decode cX7_newNode 54 = .ok (.iconst 4, 1) := by decide +kernel
theorem dX7_newNode_55 : decode cX7_newNode 55 = .ok (.iload_n 1, 1) := by decide +kernel
theorem dX7_newNode_56 : decode cX7_newNode 56 = .ok (.imul, 1) := by decide +kernel
theorem dX7_newNode_57 : decode cX7_newNode 57 = .ok (.iload 4, 2) := by decide +kernel
theorem dX7_newNode_59 : decode cX7_newNode 59 = .ok (.iadd, 1) := by decide +kernel
theorem dX7_newNode_60 : decode cX7_newNode 60 = .ok (.iaload, 1) := by decide +kernel
theorem dX7_newNode_61 : decode cX7_newNode 61 = .ok (.iastore, 1) := by decide +kernel
theorem dX7_newNode_62 : decode cX7_newNode 62 = .ok (.iinc 4 1, 3) := by decide +kernel
theorem dX7_newNode_65 : decode cX7_newNode 65 = .ok (.goto (-31), 3) := by decide +kernel
theorem dX7_newNode_68 : decode cX7_newNode 68 = .ok (.aload_n 0, 1) := by decide +kernel
theorem dX7_newNode_69 : decode cX7_newNode 69 = .ok (.getfield 33, 3) := by decide +kernel
theorem dX7_newNode_72 : decode cX7_newNode 72 = .ok (.iload_n 3, 1) := by decide +kernel
theorem dX7_newNode_73 : decode cX7_newNode 73 = .ok (.iconst 1, 1) := by decide +kernel
theorem dX7_newNode_74 : decode cX7_newNode 74 = .ok (.bastore, 1) := by decide +kernel
theorem dX7_newNode_75 : decode cX7_newNode 75 = .ok (.aload_n 0, 1) := by decide +kernel
theorem dX7_newNode_76 : decode cX7_newNode 76 = .ok (.getfield 36, 3) := by decide +kernel
theorem dX7_newNode_79 : decode cX7_newNode 79 = .ok (.iload_n 3, 1) := by decide +kernel
theorem dX7_newNode_80 : decode cX7_newNode 80 = .ok (.iconst (-1), 1) := by decide +kernel
theorem dX7_newNode_81 : decode cX7_newNode 81 = .ok (.iastore, 1) := by decide +kernel
theorem dX7_newNode_82 : decode cX7_newNode 82 = .ok (.aload_n 0, 1) := by decide +kernel
theorem dX7_newNode_83 : decode cX7_newNode 83 = .ok (.getfield 39, 3) := by decide +kernel
theorem dX7_newNode_86 : decode cX7_newNode 86 = .ok (.iload_n 3, 1) := by decide +kernel
theorem dX7_newNode_87 : decode cX7_newNode 87 = .ok (.iconst (-1), 1) := by decide +kernel
theorem dX7_newNode_88 : decode cX7_newNode 88 = .ok (.iastore, 1) := by decide +kernel
theorem dX7_newNode_89 : decode cX7_newNode 89 = .ok (.aload_n 0, 1) := by decide +kernel
theorem dX7_newNode_90 : decode cX7_newNode 90 = .ok (.getfield 42, 3) := by decide +kernel
theorem dX7_newNode_93 : decode cX7_newNode 93 = .ok (.iload_n 3, 1) := by decide +kernel
theorem dX7_newNode_94 : decode cX7_newNode 94 = .ok (.iload_n 2, 1) := by decide +kernel
theorem dX7_newNode_95 : decode cX7_newNode 95 = .ok (.iastore, 1) := by decide +kernel
theorem dX7_newNode_96 : decode cX7_newNode 96 = .ok (.aload_n 0, 1) := by decide +kernel
theorem dX7_newNode_97 : decode cX7_newNode 97 = .ok (.getfield 21, 3) := by decide +kernel
theorem dX7_newNode_100 : decode cX7_newNode 100 = .ok (.iload_n 1, 1) := by decide +kernel
theorem dX7_newNode_101 : decode cX7_newNode 101 = .ok (.iload_n 3, 1) := by decide +kernel
theorem dX7_newNode_102 : decode cX7_newNode 102 = .ok (.iastore, 1) := by decide +kernel
theorem dX7_newNode_103 : decode cX7_newNode 103 = .ok (.iload_n 3, 1) := by decide +kernel
theorem dX7_newNode_104 : decode cX7_newNode 104 = .ok (.ireturn, 1) := by decide +kernel
theorem dX7_hang_0 : decode cX7_hang 0 = .ok (.iload_n 2, 1) := by decide +kernel
theorem dX7_hang_1 : decode cX7_hang 1 = .ok (.iconst (-1), 1) := by decide +kernel
theorem dX7_hang_2 : decode cX7_hang 2 = .ok (.if_icmp .ne 11, 3) := by decide +kernel
theorem dX7_hang_5 : decode cX7_hang 5 = .ok (.aload_n 0, 1) := by decide +kernel
theorem dX7_hang_6 : decode cX7_hang 6 = .ok (.iload_n 1, 1) := by decide +kernel
theorem dX7_hang_7 : decode cX7_hang 7 = .ok (.putfield 45, 3) := by decide +kernel
theorem dX7_hang_10 : decode cX7_hang 10 = .ok (.goto 24, 3) := by decide +kernel
theorem dX7_hang_13 : decode cX7_hang 13 = .ok (.iload_n 3, 1) := by decide +kernel
theorem dX7_hang_14 : decode cX7_hang 14 = .ok (.ifCond .eq 13, 3) := by decide +kernel
theorem dX7_hang_17 : decode cX7_hang 17 = .ok (.aload_n 0, 1) := by decide +kernel
theorem dX7_hang_18 : decode cX7_hang 18 = .ok (.getfield 36, 3) := by decide +kernel
theorem dX7_hang_21 : decode cX7_hang 21 = .ok (.iload_n 2, 1) := by decide +kernel
theorem dX7_hang_22 : decode cX7_hang 22 = .ok (.iload_n 1, 1) := by decide +kernel
theorem dX7_hang_23 : decode cX7_hang 23 = .ok (.iastore, 1) := by decide +kernel
theorem dX7_hang_24 : decode cX7_hang 24 = .ok (.goto 10, 3) := by decide +kernel
theorem dX7_hang_27 : decode cX7_hang 27 = .ok (.aload_n 0, 1) := by decide +kernel
theorem dX7_hang_28 : decode cX7_hang 28 = .ok (.getfield 39, 3) := by decide +kernel
theorem dX7_hang_31 : decode cX7_hang 31 = .ok (.iload_n 2, 1) := by decide +kernel
theorem dX7_hang_32 : decode cX7_hang 32 = .ok (.iload_n 1, 1) := by decide +kernel
theorem dX7_hang_33 : decode cX7_hang 33 = .ok (.iastore, 1) := by decide +kernel
theorem dX7_hang_34 : decode cX7_hang 34 = .ok (.return_, 1) := by decide +kernel
theorem dX7_isLess_0 : decode cX7_isLess 0 = .ok (.aload_n 0, 1) := by decide +kernel
theorem dX7_isLess_1 : decode cX7_isLess 1 = .ok (.getfield 17, 3) := by decide +kernel
theorem dX7_isLess_4 : decode cX7_isLess 4 = .ok (.iconst 4, 1) := by decide +kernel
theorem dX7_isLess_5 : decode cX7_isLess 5 = .ok (.iload_n 1, 1) := by decide +kernel
theorem dX7_isLess_6 : decode cX7_isLess 6 = .ok (.imul, 1) := by decide +kernel
theorem dX7_isLess_7 : decode cX7_isLess 7 = .ok (.iload_n 3, 1) := by decide +kernel
theorem dX7_isLess_8 : decode cX7_isLess 8 = .ok (.iadd, 1) := by decide +kernel
theorem dX7_isLess_9 : decode cX7_isLess 9 = .ok (.iaload, 1) := by decide +kernel
theorem dX7_isLess_10 : decode cX7_isLess 10 = .ok (.istore 4, 2) := by decide +kernel
theorem dX7_isLess_12 : decode cX7_isLess 12 = .ok (.aload_n 0, 1) := by decide +kernel
theorem dX7_isLess_13 : decode cX7_isLess 13 = .ok (.getfield 30, 3) := by decide +kernel
theorem dX7_isLess_16 : decode cX7_isLess 16 = .ok (.iconst 4, 1) := by decide +kernel
theorem dX7_isLess_17 : decode cX7_isLess 17 = .ok (.iload_n 2, 1) := by decide +kernel
theorem dX7_isLess_18 : decode cX7_isLess 18 = .ok (.imul, 1) := by decide +kernel
theorem dX7_isLess_19 : decode cX7_isLess 19 = .ok (.iload_n 3, 1) := by decide +kernel
theorem dX7_isLess_20 : decode cX7_isLess 20 = .ok (.iadd, 1) := by decide +kernel
theorem dX7_isLess_21 : decode cX7_isLess 21 = .ok (.iaload, 1) := by decide +kernel
theorem dX7_isLess_22 : decode cX7_isLess 22 = .ok (.istore 5, 2) := by decide +kernel
theorem dX7_isLess_24 : decode cX7_isLess 24 = .ok (.iload 4, 2) := by decide +kernel
theorem dX7_isLess_26 : decode cX7_isLess 26 = .ok (.iload 5, 2) := by decide +kernel
theorem dX7_isLess_28 : decode cX7_isLess 28 = .ok (.if_icmp .lt 20, 3) := by decide +kernel
theorem dX7_isLess_31 : decode cX7_isLess 31 = .ok (.iload 4, 2) := by decide +kernel
theorem dX7_isLess_33 : decode cX7_isLess 33 = .ok (.iload 5, 2) := by decide +kernel
theorem dX7_isLess_35 : decode cX7_isLess 35 = .ok (.if_icmp .ne 17, 3) := by decide +kernel
theorem dX7_isLess_38 : decode cX7_isLess 38 = .ok (.iload_n 1, 1) := by decide +kernel
theorem dX7_isLess_39 : decode cX7_isLess 39 = .ok (.aload_n 0, 1) := by decide +kernel
theorem dX7_isLess_40 : decode cX7_isLess 40 = .ok (.getfield 27, 3) := by decide +kernel
theorem dX7_isLess_43 : decode cX7_isLess 43 = .ok (.iload_n 2, 1) := by decide +kernel
theorem dX7_isLess_44 : decode cX7_isLess 44 = .ok (.iaload, 1) := by decide +kernel
theorem dX7_isLess_45 : decode cX7_isLess 45 = .ok (.if_icmp .ge 7, 3) := by decide +kernel
theorem dX7_isLess_48 : decode cX7_isLess 48 = .ok (.iconst 1, 1) := by decide +kernel
theorem dX7_isLess_49 : decode cX7_isLess 49 = .ok (.goto 4, 3) := by decide +kernel
theorem dX7_isLess_52 : decode cX7_isLess 52 = .ok (.iconst 0, 1) := by decide +kernel
theorem dX7_isLess_53 : decode cX7_isLess 53 = .ok (.ireturn, 1) := by decide +kernel
theorem dX7_sortBy_0 : decode cX7_sortBy 0 = .ok (.iload_n 2, 1) := by decide +kernel
theorem dX7_sortBy_1 : decode cX7_sortBy 1 = .ok (.iconst 1, 1) := by decide +kernel
theorem dX7_sortBy_2 : decode cX7_sortBy 2 = .ok (.iadd, 1) := by decide +kernel
theorem dX7_sortBy_3 : decode cX7_sortBy 3 = .ok (.istore 4, 2) := by decide +kernel
theorem dX7_sortBy_5 : decode cX7_sortBy 5 = .ok (.iload 4, 2) := by decide +kernel
theorem dX7_sortBy_7 : decode cX7_sortBy 7 = .ok (.iload_n 3, 1) := by decide +kernel
theorem dX7_sortBy_8 : decode cX7_sortBy 8 = .ok (.if_icmp .ge 137, 3) := by decide +kernel
theorem dX7_sortBy_11 : decode cX7_sortBy 11 = .ok (.aload_n 0, 1) := by decide +kernel
theorem dX7_sortBy_12 : decode cX7_sortBy 12 = .ok (.getfield 54, 3) := by decide +kernel
theorem dX7_sortBy_15 : decode cX7_sortBy 15 = .ok (.iload 4, 2) := by decide +kernel
theorem dX7_sortBy_17 : decode cX7_sortBy 17 = .ok (.iaload, 1) := by decide +kernel
theorem dX7_sortBy_18 : decode cX7_sortBy 18 = .ok (.istore 5, 2) := by decide +kernel
theorem dX7_sortBy_20 : decode cX7_sortBy 20 = .ok (.iload 4, 2) := by decide +kernel
theorem dX7_sortBy_22 : decode cX7_sortBy 22 = .ok (.istore 6, 2) := by decide +kernel
theorem dX7_sortBy_24 : decode cX7_sortBy 24 = .ok (.iload 6, 2) := by decide +kernel
theorem dX7_sortBy_26 : decode cX7_sortBy 26 = .ok (.iload_n 2, 1) := by decide +kernel
theorem dX7_sortBy_27 : decode cX7_sortBy 27 = .ok (.if_icmp .le 103, 3) := by decide +kernel
theorem dX7_sortBy_30 : decode cX7_sortBy 30 = .ok (.aload_n 0, 1) := by decide +kernel
theorem dX7_sortBy_31 : decode cX7_sortBy 31 = .ok (.getfield 17, 3) := by decide +kernel
theorem dX7_sortBy_34 : decode cX7_sortBy 34 = .ok (.iconst 4, 1) := by decide +kernel
theorem dX7_sortBy_35 : decode cX7_sortBy 35 = .ok (.aload_n 0, 1) := by decide +kernel
theorem dX7_sortBy_36 : decode cX7_sortBy 36 = .ok (.getfield 54, 3) := by decide +kernel
theorem dX7_sortBy_39 : decode cX7_sortBy 39 = .ok (.iload 6, 2) := by decide +kernel
theorem dX7_sortBy_41 : decode cX7_sortBy 41 = .ok (.iconst 1, 1) := by decide +kernel
theorem dX7_sortBy_42 : decode cX7_sortBy 42 = .ok (.isub, 1) := by decide +kernel
theorem dX7_sortBy_43 : decode cX7_sortBy 43 = .ok (.iaload, 1) := by decide +kernel
theorem dX7_sortBy_44 : decode cX7_sortBy 44 = .ok (.imul, 1) := by decide +kernel
theorem dX7_sortBy_45 : decode cX7_sortBy 45 = .ok (.iload_n 1, 1) := by decide +kernel
theorem dX7_sortBy_46 : decode cX7_sortBy 46 = .ok (.iadd, 1) := by decide +kernel
theorem dX7_sortBy_47 : decode cX7_sortBy 47 = .ok (.iaload, 1) := by decide +kernel
theorem dX7_sortBy_48 : decode cX7_sortBy 48 = .ok (.aload_n 0, 1) := by decide +kernel
theorem dX7_sortBy_49 : decode cX7_sortBy 49 = .ok (.getfield 17, 3) := by decide +kernel
theorem dX7_sortBy_52 : decode cX7_sortBy 52 = .ok (.iconst 4, 1) := by decide +kernel
theorem dX7_sortBy_53 : decode cX7_sortBy 53 = .ok (.iload 5, 2) := by decide +kernel
theorem dX7_sortBy_55 : decode cX7_sortBy 55 = .ok (.imul, 1) := by decide +kernel
theorem dX7_sortBy_56 : decode cX7_sortBy 56 = .ok (.iload_n 1, 1) := by decide +kernel
theorem dX7_sortBy_57 : decode cX7_sortBy 57 = .ok (.iadd, 1) := by decide +kernel
theorem dX7_sortBy_58 : decode cX7_sortBy 58 = .ok (.iaload, 1) := by decide +kernel
theorem dX7_sortBy_59 : decode cX7_sortBy 59 = .ok (.if_icmp .gt 49, 3) := by decide +kernel
theorem dX7_sortBy_62 : decode cX7_sortBy 62 = .ok (.aload_n 0, 1) := by decide +kernel
theorem dX7_sortBy_63 : decode cX7_sortBy 63 = .ok (.getfield 17, 3) := by decide +kernel
theorem dX7_sortBy_66 : decode cX7_sortBy 66 = .ok (.iconst 4, 1) := by decide +kernel
theorem dX7_sortBy_67 : decode cX7_sortBy 67 = .ok (.aload_n 0, 1) := by decide +kernel
theorem dX7_sortBy_68 : decode cX7_sortBy 68 = .ok (.getfield 54, 3) := by decide +kernel
theorem dX7_sortBy_71 : decode cX7_sortBy 71 = .ok (.iload 6, 2) := by decide +kernel
theorem dX7_sortBy_73 : decode cX7_sortBy 73 = .ok (.iconst 1, 1) := by decide +kernel
theorem dX7_sortBy_74 : decode cX7_sortBy 74 = .ok (.isub, 1) := by decide +kernel
theorem dX7_sortBy_75 : decode cX7_sortBy 75 = .ok (.iaload, 1) := by decide +kernel
theorem dX7_sortBy_76 : decode cX7_sortBy 76 = .ok (.imul, 1) := by decide +kernel
theorem dX7_sortBy_77 : decode cX7_sortBy 77 = .ok (.iload_n 1, 1) := by decide +kernel
theorem dX7_sortBy_78 : decode cX7_sortBy 78 = .ok (.iadd, 1) := by decide +kernel
theorem dX7_sortBy_79 : decode cX7_sortBy 79 = .ok (.iaload, 1) := by decide +kernel
theorem dX7_sortBy_80 : decode cX7_sortBy 80 = .ok (.aload_n 0, 1) := by decide +kernel
theorem dX7_sortBy_81 : decode cX7_sortBy 81 = .ok (.getfield 17, 3) := by decide +kernel
theorem dX7_sortBy_84 : decode cX7_sortBy 84 = .ok (.iconst 4, 1) := by decide +kernel
theorem dX7_sortBy_85 : decode cX7_sortBy 85 = .ok (.iload 5, 2) := by decide +kernel
theorem dX7_sortBy_87 : decode cX7_sortBy 87 = .ok (.imul, 1) := by decide +kernel
theorem dX7_sortBy_88 : decode cX7_sortBy 88 = .ok (.iload_n 1, 1) := by decide +kernel
theorem dX7_sortBy_89 : decode cX7_sortBy 89 = .ok (.iadd, 1) := by decide +kernel
theorem dX7_sortBy_90 : decode cX7_sortBy 90 = .ok (.iaload, 1) := by decide +kernel
theorem dX7_sortBy_91 : decode cX7_sortBy 91 = .ok (.if_icmp .ne 39, 3) := by decide +kernel
theorem dX7_sortBy_94 : decode cX7_sortBy 94 = .ok (.aload_n 0, 1) := by decide +kernel
theorem dX7_sortBy_95 : decode cX7_sortBy 95 = .ok (.getfield 54, 3) := by decide +kernel
theorem dX7_sortBy_98 : decode cX7_sortBy 98 = .ok (.iload 6, 2) := by decide +kernel
theorem dX7_sortBy_100 : decode cX7_sortBy 100 = .ok (.iconst 1, 1) := by decide +kernel
theorem dX7_sortBy_101 : decode cX7_sortBy 101 = .ok (.isub, 1) := by decide +kernel
theorem dX7_sortBy_102 : decode cX7_sortBy 102 = .ok (.iaload, 1) := by decide +kernel
theorem dX7_sortBy_103 : decode cX7_sortBy 103 = .ok (.iload 5, 2) := by decide +kernel
theorem dX7_sortBy_105 : decode cX7_sortBy 105 = .ok (.if_icmp .le 25, 3) := by decide +kernel
theorem dX7_sortBy_108 : decode cX7_sortBy 108 = .ok (.aload_n 0, 1) := by decide +kernel
theorem dX7_sortBy_109 : decode cX7_sortBy 109 = .ok (.getfield 54, 3) := by decide +kernel
theorem dX7_sortBy_112 : decode cX7_sortBy 112 = .ok (.iload 6, 2) := by decide +kernel
theorem dX7_sortBy_114 : decode cX7_sortBy 114 = .ok (.aload_n 0, 1) := by decide +kernel
theorem dX7_sortBy_115 : decode cX7_sortBy 115 = .ok (.getfield 54, 3) := by decide +kernel
theorem dX7_sortBy_118 : decode cX7_sortBy 118 = .ok (.iload 6, 2) := by decide +kernel
theorem dX7_sortBy_120 : decode cX7_sortBy 120 = .ok (.iconst 1, 1) := by decide +kernel
theorem dX7_sortBy_121 : decode cX7_sortBy 121 = .ok (.isub, 1) := by decide +kernel
theorem dX7_sortBy_122 : decode cX7_sortBy 122 = .ok (.iaload, 1) := by decide +kernel
theorem dX7_sortBy_123 : decode cX7_sortBy 123 = .ok (.iastore, 1) := by decide +kernel
theorem dX7_sortBy_124 : decode cX7_sortBy 124 = .ok (.iinc 6 (-1), 3) := by decide +kernel
theorem dX7_sortBy_127 : decode cX7_sortBy 127 = .ok (.goto (-103), 3) := by decide +kernel
theorem dX7_sortBy_130 : decode cX7_sortBy 130 = .ok (.aload_n 0, 1) := by decide +kernel
theorem dX7_sortBy_131 : decode cX7_sortBy 131 = .ok (.getfield 54, 3) := by decide +kernel
theorem dX7_sortBy_134 : decode cX7_sortBy 134 = .ok (.iload 6, 2) := by decide +kernel
theorem dX7_sortBy_136 : decode cX7_sortBy 136 = .ok (.iload 5, 2) := by decide +kernel
theorem dX7_sortBy_138 : decode cX7_sortBy 138 = .ok (.iastore, 1) := by decide +kernel
theorem dX7_sortBy_139 : decode cX7_sortBy 139 = .ok (.iinc 4 1, 3) := by decide +kernel
theorem dX7_sortBy_142 : decode cX7_sortBy 142 = .ok (.goto (-137), 3) := by decide +kernel
theorem dX7_sortBy_145 : decode cX7_sortBy 145 = .ok (.return_, 1) := by decide +kernel
theorem dX7_build_0 : decode cX7_build 0 = .ok (.aload_n 0, 1) := by decide +kernel
theorem dX7_build_1 : decode cX7_build 1 = .ok (.getfield 42, 3) := by decide +kernel
theorem dX7_build_4 : decode cX7_build 4 = .ok (.iload_n 1, 1) := by decide +kernel
theorem dX7_build_5 : decode cX7_build 5 = .ok (.iaload, 1) := by decide +kernel
theorem dX7_build_6 : decode cX7_build 6 = .ok (.istore_n 2, 1) := by decide +kernel
theorem dX7_build_7 : decode cX7_build 7 = .ok (.iload_n 2, 1) := by decide +kernel
theorem dX7_build_8 : decode cX7_build 8 = .ok (.iconst (-1), 1) := by decide +kernel
theorem dX7_build_9 : decode cX7_build 9 = .ok (.if_icmp .eq 17, 3) := by decide +kernel
theorem dX7_build_12 : decode cX7_build 12 = .ok (.aload_n 0, 1) := by decide +kernel
theorem dX7_build_13 : decode cX7_build 13 = .ok (.getfield 36, 3) := by decide +kernel
theorem dX7_build_16 : decode cX7_build 16 = .ok (.iload_n 2, 1) := by decide +kernel
theorem dX7_build_17 : decode cX7_build 17 = .ok (.iaload, 1) := by decide +kernel
theorem dX7_build_18 : decode cX7_build 18 = .ok (.iload_n 1, 1) := by decide +kernel
theorem dX7_build_19 : decode cX7_build 19 = .ok (.if_icmp .ne 7, 3) := by decide +kernel
theorem dX7_build_22 : decode cX7_build 22 = .ok (.iconst 1, 1) := by decide +kernel
theorem dX7_build_23 : decode cX7_build 23 = .ok (.goto 4, 3) := by decide +kernel
theorem dX7_build_26 : decode cX7_build 26 = .ok (.iconst 0, 1) := by decide +kernel
theorem dX7_build_27 : decode cX7_build 27 = .ok (.istore_n 3, 1) := by decide +kernel
theorem dX7_build_28 : decode cX7_build 28 = .ok (.aload_n 0, 1) := by decide +kernel
theorem dX7_build_29 : decode cX7_build 29 = .ok (.iload_n 1, 1) := by decide +kernel
theorem dX7_build_30 : decode cX7_build 30 = .ok (.invokevirtual 98, 3) := by decide +kernel
theorem dX7_build_33 : decode cX7_build 33 = .ok (.istore 4, 2) := by decide +kernel
theorem dX7_build_35 : decode cX7_build 35 = .ok (.iconst 0, 1) := by decide +kernel
theorem dX7_build_36 : decode cX7_build 36 = .ok (.istore 5, 2) := by decide +kernel
theorem dX7_build_38 : decode cX7_build 38 = .ok (.iconst 0, 1) := by decide +kernel
theorem dX7_build_39 : decode cX7_build 39 = .ok (.istore 6, 2) := by decide +kernel
theorem dX7_build_41 : decode cX7_build 41 = .ok (.iload 6, 2) := by decide +kernel
theorem dX7_build_43 : decode cX7_build 43 = .ok (.iload 4, 2) := by decide +kernel
theorem dX7_build_45 : decode cX7_build 45 = .ok (.if_icmp .ge 59, 3) := by decide +kernel
theorem dX7_build_48 : decode cX7_build 48 = .ok (.aload_n 0, 1) := by decide +kernel
theorem dX7_build_49 : decode cX7_build 49 = .ok (.getfield 24, 3) := by decide +kernel
theorem dX7_build_52 : decode cX7_build 52 = .ok (.aload_n 0, 1) := by decide +kernel
theorem dX7_build_53 : decode cX7_build 53 = .ok (.getfield 48, 3) := by decide +kernel
theorem dX7_build_56 : decode cX7_build 56 = .ok (.iload 6, 2) := by decide +kernel
theorem dX7_build_58 : decode cX7_build 58 = .ok (.iaload, 1) := by decide +kernel
theorem dX7_build_59 : decode cX7_build 59 = .ok (.iconst 0, 1) := by decide +kernel
theorem dX7_build_60 : decode cX7_build 60 = .ok (.bastore, 1) := by decide +kernel
theorem dX7_build_61 : decode cX7_build 61 = .ok (.aload_n 0, 1) := by decide +kernel
theorem dX7_build_62 : decode cX7_build 62 = .ok (.getfield 33, 3) := by decide +kernel
theorem dX7_build_65 : decode cX7_build 65 = .ok (.aload_n 0, 1) := by decide +kernel
theorem dX7_build_66 : decode cX7_build 66 = .ok (.getfield 48, 3) := by decide +kernel
theorem dX7_build_69 : decode cX7_build 69 = .ok (.iload 6, 2) := by decide +kernel
theorem dX7_build_71 : decode cX7_build 71 = .ok (.iaload, 1) := by decide +kernel
theorem dX7_build_72 : decode cX7_build 72 = .ok (.baload, 1) := by decide +kernel
theorem dX7_build_73 : decode cX7_build 73 = .ok (.ifCond .eq 25, 3) := by decide +kernel
theorem dX7_build_76 : decode cX7_build 76 = .ok (.aload_n 0, 1) := by decide +kernel
theorem dX7_build_77 : decode cX7_build 77 = .ok (.getfield 54, 3) := by decide +kernel
theorem dX7_build_80 : decode cX7_build 80 = .ok (.iload 5, 2) := by decide +kernel
theorem dX7_build_82 : decode cX7_build 82 = .ok (.aload_n 0, 1) := by decide +kernel
theorem dX7_build_83 : decode cX7_build 83 = .ok (.getfield 27, 3) := by decide +kernel
theorem dX7_build_86 : decode cX7_build 86 = .ok (.aload_n 0, 1) := by decide +kernel
theorem dX7_build_87 : decode cX7_build 87 = .ok (.getfield 48, 3) := by decide +kernel
theorem dX7_build_90 : decode cX7_build 90 = .ok (.iload 6, 2) := by decide +kernel
theorem dX7_build_92 : decode cX7_build 92 = .ok (.iaload, 1) := by decide +kernel
theorem dX7_build_93 : decode cX7_build 93 = .ok (.iaload, 1) := by decide +kernel
theorem dX7_build_94 : decode cX7_build 94 = .ok (.iastore, 1) := by decide +kernel
theorem dX7_build_95 : decode cX7_build 95 = .ok (.iinc 5 1, 3) := by decide +kernel
theorem dX7_build_98 : decode cX7_build 98 = .ok (.iinc 6 1, 3) := by decide +kernel
theorem dX7_build_101 : decode cX7_build 101 = .ok (.goto (-60), 3) := by decide +kernel
theorem dX7_build_104 : decode cX7_build 104 = .ok (.aload_n 0, 1) := by decide +kernel
theorem dX7_build_105 : decode cX7_build 105 = .ok (.iconst (-1), 1) := by decide +kernel
theorem dX7_build_106 : decode cX7_build 106 = .ok (.iload_n 2, 1) := by decide +kernel
theorem dX7_build_107 : decode cX7_build 107 = .ok (.iload_n 3, 1) := by decide +kernel
theorem dX7_build_108 : decode cX7_build 108 = .ok (.invokevirtual 102, 3) := by decide +kernel
theorem dX7_build_111 : decode cX7_build 111 = .ok (.iconst 0, 1) := by decide +kernel
theorem dX7_build_112 : decode cX7_build 112 = .ok (.istore 6, 2) := by decide +kernel
theorem dX7_build_114 : decode cX7_build 114 = .ok (.iload 5, 2) := by decide +kernel
theorem dX7_build_116 : decode cX7_build 116 = .ok (.ifCond .le 35, 3) := by decide +kernel
theorem dX7_build_119 : decode cX7_build 119 = .ok (.aload_n 0, 1) := by decide +kernel
theorem dX7_build_120 : decode cX7_build 120 = .ok (.getfield 57, 3) := by decide +kernel
theorem dX7_build_123 : decode cX7_build 123 = .ok (.iconst 0, 1) := by decide +kernel
theorem dX7_build_124 : decode cX7_build 124 = .ok (.iconst 0, 1) := by decide +kernel
theorem dX7_build_125 : decode cX7_build 125 = .ok (.iastore, 1) := by decide +kernel
theorem dX7_build_126 : decode cX7_build 126 = .ok (.aload_n 0, 1) := by decide +kernel
theorem dX7_build_127 : decode cX7_build 127 = .ok (.getfield 60, 3) := by decide +kernel
theorem dX7_build_130 : decode cX7_build 130 = .ok (.iconst 0, 1) := by decide +kernel
theorem dX7_build_131 : decode cX7_build 131 = .ok (.iload 5, 2) := by decide +kernel
theorem dX7_build_133 : decode cX7_build 133 = .ok (.iastore, 1) := by decide +kernel
theorem dX7_build_134 : decode cX7_build 134 = .ok (.aload_n 0, 1) := by decide +kernel
theorem dX7_build_135 : decode cX7_build 135 = .ok (.getfield 63, 3) := by decide +kernel
theorem dX7_build_138 : decode cX7_build 138 = .ok (.iconst 0, 1) := by decide +kernel
theorem dX7_build_139 : decode cX7_build 139 = .ok (.iload_n 2, 1) := by decide +kernel
theorem dX7_build_140 : decode cX7_build 140 = .ok (.iastore, 1) := by decide +kernel
theorem dX7_build_141 : decode cX7_build 141 = .ok (.aload_n 0, 1) := by decide +kernel
theorem dX7_build_142 : decode cX7_build 142 = .ok (.getfield 66, 3) := by decide +kernel
theorem dX7_build_145 : decode cX7_build 145 = .ok (.iconst 0, 1) := by decide +kernel
theorem dX7_build_146 : decode cX7_build 146 = .ok (.iload_n 3, 1) := by decide +kernel
theorem dX7_build_147 : decode cX7_build 147 = .ok (.bastore, 1) := by decide +kernel
theorem dX7_build_148 : decode cX7_build 148 = .ok (.iconst 1, 1) := by decide +kernel
theorem dX7_build_149 : decode cX7_build 149 = .ok (.istore 6, 2) := by decide +kernel
theorem dX7_build_151 : decode cX7_build 151 = .ok (.iload 6, 2) := by decide +kernel
theorem dX7_build_153 : decode cX7_build 153 = .ok (.ifCond .le 211, 3) := by decide +kernel
theorem dX7_build_156 : decode cX7_build 156 = .ok (.iinc 6 (-1), 3) := by decide +kernel
theorem dX7_build_159 : decode cX7_build 159 = .ok (.aload_n 0, 1) := by decide +kernel
theorem dX7_build_160 : decode cX7_build 160 = .ok (.getfield 57, 3) := by decide +kernel
theorem dX7_build_163 : decode cX7_build 163 = .ok (.iload 6, 2) := by decide +kernel
theorem dX7_build_165 : decode cX7_build 165 = .ok (.iaload, 1) := by decide +kernel
theorem dX7_build_166 : decode cX7_build 166 = .ok (.istore 7, 2) := by decide +kernel
theorem dX7_build_168 : decode cX7_build 168 = .ok (.aload_n 0, 1) := by decide +kernel
theorem dX7_build_169 : decode cX7_build 169 = .ok (.getfield 60, 3) := by decide +kernel
theorem dX7_build_172 : decode cX7_build 172 = .ok (.iload 6, 2) := by decide +kernel
theorem dX7_build_174 : decode cX7_build 174 = .ok (.iaload, 1) := by decide +kernel
theorem dX7_build_175 : decode cX7_build 175 = .ok (.istore 8, 2) := by decide +kernel
theorem dX7_build_177 : decode cX7_build 177 = .ok (.aload_n 0, 1) := by decide +kernel
theorem dX7_build_178 : decode cX7_build 178 = .ok (.getfield 63, 3) := by decide +kernel
theorem dX7_build_181 : decode cX7_build 181 = .ok (.iload 6, 2) := by decide +kernel
theorem dX7_build_183 : decode cX7_build 183 = .ok (.iaload, 1) := by decide +kernel
theorem dX7_build_184 : decode cX7_build 184 = .ok (.istore 9, 2) := by decide +kernel
theorem dX7_build_186 : decode cX7_build 186 = .ok (.aload_n 0, 1) := by decide +kernel
theorem dX7_build_187 : decode cX7_build 187 = .ok (.getfield 66, 3) := by decide +kernel
theorem dX7_build_190 : decode cX7_build 190 = .ok (.iload 6, 2) := by decide +kernel
theorem dX7_build_192 : decode cX7_build 192 = .ok (.baload, 1) := by decide +kernel
theorem dX7_build_193 : decode cX7_build 193 = .ok (.istore 10, 2) := by decide +kernel
theorem dX7_build_195 : decode cX7_build 195 = .ok (.iload 9, 2) := by decide +kernel
theorem dX7_build_197 : decode cX7_build 197 = .ok (.iconst (-1), 1) := by decide +kernel
theorem dX7_build_198 : decode cX7_build 198 = .ok (.if_icmp .ne 7, 3) := by decide +kernel
theorem dX7_build_201 : decode cX7_build 201 = .ok (.iconst 0, 1) := by decide +kernel
theorem dX7_build_202 : decode cX7_build 202 = .ok (.goto 11, 3) := by decide +kernel
theorem dX7_build_205 : decode cX7_build 205 = .ok (.aload_n 0, 1) := by decide +kernel
theorem dX7_build_206 : decode cX7_build 206 = .ok (.iload 9, 2) := by decide +kernel
theorem dX7_build_208 : decode cX7_build 208 = .ok (.invokevirtual 106, 3) := by decide +kernel
theorem dX7_build_211 : decode cX7_build 211 = .ok (.iconst 1, 1) := by decide +kernel
theorem dX7_build_212 : decode cX7_build 212 = .ok (.iadd, 1) := by decide +kernel
theorem dX7_build_213 : decode cX7_build 213 = .ok (.aload_n 0, 1) := by decide +kernel
theorem dX7_build_214 : decode cX7_build 214 = .ok (.getfield 85, 3) := by decide +kernel
theorem dX7_build_217 : decode cX7_build 217 = .ok (.irem, 1) := by decide +kernel
theorem dX7_build_218 : decode cX7_build 218 = .ok (.istore 11, 2) := by decide +kernel
theorem dX7_build_220 : decode cX7_build 220 = .ok (.aload_n 0, 1) := by decide +kernel
theorem dX7_build_221 : decode cX7_build 221 = .ok (.iload 11, 2) := by decide +kernel
theorem dX7_build_223 : decode cX7_build 223 = .ok (.iload 7, 2) := by decide +kernel
theorem dX7_build_225 : decode cX7_build 225 = .ok (.iload 8, 2) := by decide +kernel
theorem dX7_build_227 : decode cX7_build 227 = .ok (.invokevirtual 109, 3) := by decide +kernel
theorem dX7_build_230 : decode cX7_build 230 = .ok (.iload 7, 2) := by decide +kernel
theorem dX7_build_232 : decode cX7_build 232 = .ok (.iload 8, 2) := by decide +kernel
theorem dX7_build_234 : decode cX7_build 234 = .ok (.iload 7, 2) := by decide +kernel
theorem dX7_build_236 : decode cX7_build 236 = .ok (.isub, 1) := by decide +kernel
theorem dX7_build_237 : decode cX7_build 237 = .ok (.iconst 2, 1) := by decide +kernel
theorem dX7_build_238 : decode cX7_build 238 = .ok (.idiv, 1) := by decide +kernel
theorem dX7_build_239 : decode cX7_build 239 = .ok (.iadd, 1) := by decide +kernel
theorem dX7_build_240 : decode cX7_build 240 = .ok (.istore 12, 2) := by decide +kernel
theorem dX7_build_242 : decode cX7_build 242 = .ok (.aload_n 0, 1) := by decide +kernel
theorem dX7_build_243 : decode cX7_build 243 = .ok (.aload_n 0, 1) := by decide +kernel
theorem dX7_build_244 : decode cX7_build 244 = .ok (.getfield 54, 3) := by decide +kernel
theorem dX7_build_247 : decode cX7_build 247 = .ok (.iload 12, 2) := by decide +kernel
theorem dX7_build_249 : decode cX7_build 249 = .ok (.iaload, 1) := by decide +kernel
theorem dX7_build_250 : decode cX7_build 250 = .ok (.iload 9, 2) := by decide +kernel
theorem dX7_build_252 : decode cX7_build 252 = .ok (.invokevirtual 113, 3) := by decide +kernel
theorem dX7_build_255 : decode cX7_build 255 = .ok (.istore 13, 2) := by decide +kernel
theorem dX7_build_257 : decode cX7_build 257 = .ok (.aload_n 0, 1) := by decide +kernel
theorem dX7_build_258 : decode cX7_build 258 = .ok (.iload 13, 2) := by decide +kernel
theorem dX7_build_260 : decode cX7_build 260 = .ok (.iload 9, 2) := by decide +kernel
theorem dX7_build_262 : decode cX7_build 262 = .ok (.iload 10, 2) := by decide +kernel
theorem dX7_build_264 : decode cX7_build 264 = .ok (.invokevirtual 102, 3) := by decide +kernel
theorem dX7_build_267 : decode cX7_build 267 = .ok (.iload 12, 2) := by decide +kernel
theorem dX7_build_269 : decode cX7_build 269 = .ok (.iconst 1, 1) := by decide +kernel
theorem dX7_build_270 : decode cX7_build 270 = .ok (.iadd, 1) := by decide +kernel
theorem dX7_build_271 : decode cX7_build 271 = .ok (.iload 8, 2) := by decide +kernel
theorem dX7_build_273 : decode cX7_build 273 = .ok (.if_icmp .ge 43, 3) := by decide +kernel
theorem dX7_build_276 : decode cX7_build 276 = .ok (.aload_n 0, 1) := by decide +kernel
theorem dX7_build_277 : decode cX7_build 277 = .ok (.getfield 57, 3) := by decide +kernel
theorem dX7_build_280 : decode cX7_build 280 = .ok (.iload 6, 2) := by decide +kernel
theorem dX7_build_282 : decode cX7_build 282 = .ok (.iload 12, 2) := by decide +kernel
theorem dX7_build_284 : decode cX7_build 284 = .ok (.iconst 1, 1) := by decide +kernel
theorem dX7_build_285 : decode cX7_build 285 = .ok (.iadd, 1) := by decide +kernel
theorem dX7_build_286 : decode cX7_build 286 = .ok (.iastore, 1) := by decide +kernel
theorem dX7_build_287 : decode cX7_build 287 = .ok (.aload_n 0, 1) := by decide +kernel
theorem dX7_build_288 : decode cX7_build 288 = .ok (.getfield 60, 3) := by decide +kernel
theorem dX7_build_291 : decode cX7_build 291 = .ok (.iload 6, 2) := by decide +kernel
theorem dX7_build_293 : decode cX7_build 293 = .ok (.iload 8, 2) := by decide +kernel
theorem dX7_build_295 : decode cX7_build 295 = .ok (.iastore, 1) := by decide +kernel
theorem dX7_build_296 : decode cX7_build 296 = .ok (.aload_n 0, 1) := by decide +kernel
theorem dX7_build_297 : decode cX7_build 297 = .ok (.getfield 63, 3) := by decide +kernel
theorem dX7_build_300 : decode cX7_build 300 = .ok (.iload 6, 2) := by decide +kernel
theorem dX7_build_302 : decode cX7_build 302 = .ok (.iload 13, 2) := by decide +kernel
theorem dX7_build_304 : decode cX7_build 304 = .ok (.iastore, 1) := by decide +kernel
theorem dX7_build_305 : decode cX7_build 305 = .ok (.aload_n 0, 1) := by decide +kernel
theorem dX7_build_306 : decode cX7_build 306 = .ok (.getfield 66, 3) := by decide +kernel
theorem dX7_build_309 : decode cX7_build 309 = .ok (.iload 6, 2) := by decide +kernel
theorem dX7_build_311 : decode cX7_build 311 = .ok (.iconst 0, 1) := by decide +kernel
theorem dX7_build_312 : decode cX7_build 312 = .ok (.bastore, 1) := by decide +kernel
theorem dX7_build_313 : decode cX7_build 313 = .ok (.iinc 6 1, 3) := by decide +kernel
theorem dX7_build_316 : decode cX7_build 316 = .ok (.iload 7, 2) := by decide +kernel
theorem dX7_build_318 : decode cX7_build 318 = .ok (.iload 12, 2) := by decide +kernel
theorem dX7_build_320 : decode cX7_build 320 = .ok (.if_icmp .ge 41, 3) := by decide +kernel
theorem dX7_build_323 : decode cX7_build 323 = .ok (.aload_n 0, 1) := by decide +kernel
theorem dX7_build_324 : decode cX7_build 324 = .ok (.getfield 57, 3) := by decide +kernel
theorem dX7_build_327 : decode cX7_build 327 = .ok (.iload 6, 2) := by decide +kernel
theorem dX7_build_329 : decode cX7_build 329 = .ok (.iload 7, 2) := by decide +kernel
theorem dX7_build_331 : decode cX7_build 331 = .ok (.iastore, 1) := by decide +kernel
theorem dX7_build_332 : decode cX7_build 332 = .ok (.aload_n 0, 1) := by decide +kernel
theorem dX7_build_333 : decode cX7_build 333 = .ok (.getfield 60, 3) := by decide +kernel
theorem dX7_build_336 : decode cX7_build 336 = .ok (.iload 6, 2) := by decide +kernel
theorem dX7_build_338 : decode cX7_build 338 = .ok (.iload 12, 2) := by decide +kernel
theorem dX7_build_340 : decode cX7_build 340 = .ok (.iastore, 1) := by decide +kernel
theorem dX7_build_341 : decode cX7_build 341 = .ok (.aload_n 0, 1) := by decide +kernel
theorem dX7_build_342 : decode cX7_build 342 = .ok (.getfield 63, 3) := by decide +kernel
theorem dX7_build_345 : decode cX7_build 345 = .ok (.iload 6, 2) := by decide +kernel
theorem dX7_build_347 : decode cX7_build 347 = .ok (.iload 13, 2) := by decide +kernel
theorem dX7_build_349 : decode cX7_build 349 = .ok (.iastore, 1) := by decide +kernel
theorem dX7_build_350 : decode cX7_build 350 = .ok (.aload_n 0, 1) := by decide +kernel
theorem dX7_build_351 : decode cX7_build 351 = .ok (.getfield 66, 3) := by decide +kernel
theorem dX7_build_354 : decode cX7_build 354 = .ok (.iload 6, 2) := by decide +kernel
theorem dX7_build_356 : decode cX7_build 356 = .ok (.iconst 1, 1) := by decide +kernel
theorem dX7_build_357 : decode cX7_build 357 = .ok (.bastore, 1) := by decide +kernel
theorem dX7_build_358 : decode cX7_build 358 = .ok (.iinc 6 1, 3) := by decide +kernel
theorem dX7_build_361 : decode cX7_build 361 = .ok (.goto (-210), 3) := by decide +kernel
theorem dX7_build_364 : decode cX7_build 364 = .ok (.iload 5, 2) := by decide +kernel
theorem dX7_build_366 : decode cX7_build 366 = .ok (.ireturn, 1) := by decide +kernel
theorem dX7_put_0 : decode cX7_put 0 = .ok (.aload_n 0, 1) := by decide +kernel
theorem dX7_put_1 : decode cX7_put 1 = .ok (.iload_n 1, 1) := by decide +kernel
theorem dX7_put_2 : decode cX7_put 2 = .ok (.invokestatic 117, 3) := by decide +kernel
theorem dX7_put_5 : decode cX7_put 5 = .ok (.ifCond .eq 16, 3) := by decide +kernel
theorem dX7_put_8 : decode cX7_put 8 = .ok (.aload_n 0, 1) := by decide +kernel
theorem dX7_put_9 : decode cX7_put 9 = .ok (.iload_n 2, 1) := by decide +kernel
theorem dX7_put_10 : decode cX7_put 10 = .ok (.iload_n 3, 1) := by decide +kernel
theorem dX7_put_11 : decode cX7_put 11 = .ok (.iload 4, 2) := by decide +kernel
theorem dX7_put_13 : decode cX7_put 13 = .ok (.iload 5, 2) := by decide +kernel
theorem dX7_put_15 : decode cX7_put 15 = .ok (.invokevirtual 121, 3) := by decide +kernel
theorem dX7_put_18 : decode cX7_put 18 = .ok (.ifCond .ne 7, 3) := by decide +kernel
theorem dX7_put_21 : decode cX7_put 21 = .ok (.iconst 1, 1) := by decide +kernel
theorem dX7_put_22 : decode cX7_put 22 = .ok (.goto 26, 3) := by decide +kernel
theorem dX7_put_25 : decode cX7_put 25 = .ok (.aload_n 0, 1) := by decide +kernel
theorem dX7_put_26 : decode cX7_put 26 = .ok (.getfield 13, 3) := by decide +kernel
theorem dX7_put_29 : decode cX7_put 29 = .ok (.iload_n 1, 1) := by decide +kernel
theorem dX7_put_30 : decode cX7_put 30 = .ok (.baload, 1) := by decide +kernel
theorem dX7_put_31 : decode cX7_put 31 = .ok (.ifCond .ne 12, 3) := by decide +kernel
theorem dX7_put_34 : decode cX7_put 34 = .ok (.aload_n 0, 1) := by decide +kernel
theorem dX7_put_35 : decode cX7_put 35 = .ok (.getfield 125, 3) := by decide +kernel
theorem dX7_put_38 : decode cX7_put 38 = .ok (.bipush 60, 2) := by decide +kernel
theorem dX7_put_40 : decode cX7_put 40 = .ok (.if_icmp .ne 7, 3) := by decide +kernel
theorem dX7_put_43 : decode cX7_put 43 = .ok (.iconst 2, 1) := by decide +kernel
theorem dX7_put_44 : decode cX7_put 44 = .ok (.goto 4, 3) := by decide +kernel
theorem dX7_put_47 : decode cX7_put 47 = .ok (.iconst 0, 1) := by decide +kernel
theorem dX7_put_48 : decode cX7_put 48 = .ok (.putfield 1, 3) := by decide +kernel
theorem dX7_put_51 : decode cX7_put 51 = .ok (.aload_n 0, 1) := by decide +kernel
theorem dX7_put_52 : decode cX7_put 52 = .ok (.getfield 1, 3) := by decide +kernel
theorem dX7_put_55 : decode cX7_put 55 = .ok (.ifCond .le 5, 3) := by decide +kernel
theorem dX7_put_58 : decode cX7_put 58 = .ok (.iconst 0, 1) := by decide +kernel
theorem dX7_put_59 : decode cX7_put 59 = .ok (.ireturn, 1) := by decide +kernel
theorem dX7_put_60 : decode cX7_put 60 = .ok (.aload_n 0, 1) := by decide +kernel
theorem dX7_put_61 : decode cX7_put 61 = .ok (.getfield 13, 3) := by decide +kernel
theorem dX7_put_64 : decode cX7_put 64 = .ok (.iload_n 1, 1) := by decide +kernel
theorem dX7_put_65 : decode cX7_put 65 = .ok (.iconst 1, 1) := by decide +kernel
theorem dX7_put_66 : decode cX7_put 66 = .ok (.bastore, 1) := by decide +kernel
theorem dX7_put_67 : decode cX7_put 67 = .ok (.aload_n 0, 1) := by decide +kernel
theorem dX7_put_68 : decode cX7_put 68 = .ok (.dup, 1) := by decide +kernel
theorem dX7_put_69 : decode cX7_put 69 = .ok (.getfield 125, 3) := by decide +kernel
theorem dX7_put_72 : decode cX7_put 72 = .ok (.iconst 1, 1) := by decide +kernel
theorem dX7_put_73 : decode cX7_put 73 = .ok (.iadd, 1) := by decide +kernel
theorem dX7_put_74 : decode cX7_put 74 = .ok (.putfield 125, 3) := by decide +kernel
theorem dX7_put_77 : decode cX7_put 77 = .ok (.aload_n 0, 1) := by decide +kernel
theorem dX7_put_78 : decode cX7_put 78 = .ok (.getfield 17, 3) := by decide +kernel
theorem dX7_put_81 : decode cX7_put 81 = .ok (.iconst 4, 1) := by decide +kernel
theorem dX7_put_82 : decode cX7_put 82 = .ok (.iload_n 1, 1) := by decide +kernel
theorem dX7_put_83 : decode cX7_put 83 = .ok (.imul, 1) := by decide +kernel
theorem dX7_put_84 : decode cX7_put 84 = .ok (.iload_n 2, 1) := by decide +kernel
theorem dX7_put_85 : decode cX7_put 85 = .ok (.iastore, 1) := by decide +kernel
theorem dX7_put_86 : decode cX7_put 86 = .ok (.aload_n 0, 1) := by decide +kernel
theorem dX7_put_87 : decode cX7_put 87 = .ok (.getfield 17, 3) := by decide +kernel
theorem dX7_put_90 : decode cX7_put 90 = .ok (.iconst 4, 1) := by decide +kernel
theorem dX7_put_91 : decode cX7_put 91 = .ok (.iload_n 1, 1) := by decide +kernel
theorem dX7_put_92 : decode cX7_put 92 = .ok (.imul, 1) := by decide +kernel
theorem dX7_put_93 : decode cX7_put 93 = .ok (.iconst 1, 1) := by decide +kernel
theorem dX7_put_94 : decode cX7_put 94 = .ok (.iadd, 1) := by decide +kernel
theorem dX7_put_95 : decode cX7_put 95 = .ok (.aload_n 0, 1) := by decide +kernel
theorem dX7_put_96 : decode cX7_put 96 = .ok (.getfield 85, 3) := by decide +kernel
theorem dX7_put_99 : decode cX7_put 99 = .ok (.iconst 1, 1) := by decide +kernel
theorem dX7_put_100 : decode cX7_put 100 = .ok (.if_icmp .le 7, 3) := by decide +kernel
theorem dX7_put_103 : decode cX7_put 103 = .ok (.iload_n 3, 1) := by decide +kernel
theorem dX7_put_104 : decode cX7_put 104 = .ok (.goto 4, 3) := by decide +kernel
theorem dX7_put_107 : decode cX7_put 107 = .ok (.iconst 0, 1) := by decide +kernel
theorem dX7_put_108 : decode cX7_put 108 = .ok (.iastore, 1) := by decide +kernel
theorem dX7_put_109 : decode cX7_put 109 = .ok (.aload_n 0, 1) := by decide +kernel
theorem dX7_put_110 : decode cX7_put 110 = .ok (.getfield 17, 3) := by decide +kernel
theorem dX7_put_113 : decode cX7_put 113 = .ok (.iconst 4, 1) := by decide +kernel
theorem dX7_put_114 : decode cX7_put 114 = .ok (.iload_n 1, 1) := by decide +kernel
theorem dX7_put_115 : decode cX7_put 115 = .ok (.imul, 1) := by decide +kernel
theorem dX7_put_116 : decode cX7_put 116 = .ok (.iconst 2, 1) := by decide +kernel
theorem dX7_put_117 : decode cX7_put 117 = .ok (.iadd, 1) := by decide +kernel
theorem dX7_put_118 : decode cX7_put 118 = .ok (.aload_n 0, 1) := by decide +kernel
theorem dX7_put_119 : decode cX7_put 119 = .ok (.getfield 85, 3) := by decide +kernel
theorem dX7_put_122 : decode cX7_put 122 = .ok (.iconst 2, 1) := by decide +kernel
theorem dX7_put_123 : decode cX7_put 123 = .ok (.if_icmp .le 8, 3) := by decide +kernel
theorem dX7_put_126 : decode cX7_put 126 = .ok (.iload 4, 2) := by decide +kernel
theorem dX7_put_128 : decode cX7_put 128 = .ok (.goto 4, 3) := by decide +kernel
theorem dX7_put_131 : decode cX7_put 131 = .ok (.iconst 0, 1) := by decide +kernel
theorem dX7_put_132 : decode cX7_put 132 = .ok (.iastore, 1) := by decide +kernel
theorem dX7_put_133 : decode cX7_put 133 = .ok (.aload_n 0, 1) := by decide +kernel
theorem dX7_put_134 : decode cX7_put 134 = .ok (.getfield 17, 3) := by decide +kernel
theorem dX7_put_137 : decode cX7_put 137 = .ok (.iconst 4, 1) := by decide +kernel
theorem dX7_put_138 : decode cX7_put 138 = .ok (.iload_n 1, 1) := by decide +kernel
theorem dX7_put_139 : decode cX7_put 139 = .ok (.imul, 1) := by decide +kernel
theorem dX7_put_140 : decode cX7_put 140 = .ok (.iconst 3, 1) := by decide +kernel
theorem dX7_put_141 : decode cX7_put 141 = .ok (.iadd, 1) := by decide +kernel
theorem dX7_put_142 : decode cX7_put 142 = .ok (.aload_n 0, 1) := by decide +kernel
theorem dX7_put_143 : decode cX7_put 143 = .ok (.getfield 85, 3) := by decide +kernel
theorem dX7_put_146 : decode cX7_put 146 = .ok (.iconst 3, 1) := by decide +kernel
theorem dX7_put_147 : decode cX7_put 147 = .ok (.if_icmp .le 8, 3) := by decide +kernel
theorem dX7_put_150 : decode cX7_put 150 = .ok (.iload 5, 2) := by decide +kernel
theorem dX7_put_152 : decode cX7_put 152 = .ok (.goto 4, 3) := by decide +kernel
theorem dX7_put_155 : decode cX7_put 155 = .ok (.iconst 0, 1) := by decide +kernel
theorem dX7_put_156 : decode cX7_put 156 = .ok (.iastore, 1) := by decide +kernel
theorem dX7_put_157 : decode cX7_put 157 = .ok (.aload_n 0, 1) := by decide +kernel
theorem dX7_put_158 : decode cX7_put 158 = .ok (.getfield 45, 3) := by decide +kernel
theorem dX7_put_161 : decode cX7_put 161 = .ok (.istore 6, 2) := by decide +kernel
theorem dX7_put_163 : decode cX7_put 163 = .ok (.iconst (-1), 1) := by decide +kernel
theorem dX7_put_164 : decode cX7_put 164 = .ok (.istore 7, 2) := by decide +kernel
theorem dX7_put_166 : decode cX7_put 166 = .ok (.iconst 0, 1) := by decide +kernel
theorem dX7_put_167 : decode cX7_put 167 = .ok (.istore 8, 2) := by decide +kernel
theorem dX7_put_169 : decode cX7_put 169 = .ok (.iconst 0, 1) := by decide +kernel
theorem dX7_put_170 : decode cX7_put 170 = .ok (.istore 9, 2) := by decide +kernel
theorem dX7_put_172 : decode cX7_put 172 = .ok (.iload 6, 2) := by decide +kernel
theorem dX7_put_174 : decode cX7_put 174 = .ok (.iconst (-1), 1) := by decide +kernel
theorem dX7_put_175 : decode cX7_put 175 = .ok (.if_icmp .eq 56, 3) := by decide +kernel
theorem dX7_put_178 : decode cX7_put 178 = .ok (.iload 6, 2) := by decide +kernel
theorem dX7_put_180 : decode cX7_put 180 = .ok (.istore 7, 2) := by decide +kernel
theorem dX7_put_182 : decode cX7_put 182 = .ok (.aload_n 0, 1) := by decide +kernel
theorem dX7_put_183 : decode cX7_put 183 = .ok (.iload_n 1, 1) := by decide +kernel
theorem dX7_put_184 : decode cX7_put 184 = .ok (.iload 6, 2) := by decide +kernel
theorem dX7_put_186 : decode cX7_put 186 = .ok (.iload 9, 2) := by decide +kernel
theorem dX7_put_188 : decode cX7_put 188 = .ok (.invokevirtual 128, 3) := by decide +kernel
theorem dX7_put_191 : decode cX7_put 191 = .ok (.istore 8, 2) := by decide +kernel
theorem dX7_put_193 : decode cX7_put 193 = .ok (.iload 8, 2) := by decide +kernel
theorem dX7_put_195 : decode cX7_put 195 = .ok (.ifCond .eq 13, 3) := by decide +kernel
theorem dX7_put_198 : decode cX7_put 198 = .ok (.aload_n 0, 1) := by decide +kernel
theorem dX7_put_199 : decode cX7_put 199 = .ok (.getfield 36, 3) := by decide +kernel
theorem dX7_put_202 : decode cX7_put 202 = .ok (.iload 6, 2) := by decide +kernel
theorem dX7_put_204 : decode cX7_put 204 = .ok (.iaload, 1) := by decide +kernel
theorem dX7_put_205 : decode cX7_put 205 = .ok (.goto 10, 3) := by decide +kernel
theorem dX7_put_208 : decode cX7_put 208 = .ok (.aload_n 0, 1) := by decide +kernel
theorem dX7_put_209 : decode cX7_put 209 = .ok (.getfield 39, 3) := by decide +kernel
theorem dX7_put_212 : decode cX7_put 212 = .ok (.iload 6, 2) := by decide +kernel
theorem dX7_put_214 : decode cX7_put 214 = .ok (.iaload, 1) := by decide +kernel
theorem dX7_put_215 : decode cX7_put 215 = .ok (.istore 6, 2) := by decide +kernel
theorem dX7_put_217 : decode cX7_put 217 = .ok (.iload 9, 2) := by decide +kernel
theorem dX7_put_219 : decode cX7_put 219 = .ok (.iconst 1, 1) := by decide +kernel
theorem dX7_put_220 : decode cX7_put 220 = .ok (.iadd, 1) := by decide +kernel
theorem dX7_put_221 : decode cX7_put 221 = .ok (.aload_n 0, 1) := by decide +kernel
theorem dX7_put_222 : decode cX7_put 222 = .ok (.getfield 85, 3) := by decide +kernel
theorem dX7_put_225 : decode cX7_put 225 = .ok (.irem, 1) := by decide +kernel
theorem dX7_put_226 : decode cX7_put 226 = .ok (.istore 9, 2) := by decide +kernel
theorem dX7_put_228 : decode cX7_put 228 = .ok (.goto (-56), 3) := by decide +kernel
theorem dX7_put_231 : decode cX7_put 231 = .ok (.aload_n 0, 1) := by decide +kernel
theorem dX7_put_232 : decode cX7_put 232 = .ok (.iload_n 1, 1) := by decide +kernel
theorem dX7_put_233 : decode cX7_put 233 = .ok (.iload 7, 2) := by decide +kernel
theorem dX7_put_235 : decode cX7_put 235 = .ok (.invokevirtual 113, 3) := by decide +kernel
theorem dX7_put_238 : decode cX7_put 238 = .ok (.istore 10, 2) := by decide +kernel
theorem dX7_put_240 : decode cX7_put 240 = .ok (.aload_n 0, 1) := by decide +kernel
theorem dX7_put_241 : decode cX7_put 241 = .ok (.iload 10, 2) := by decide +kernel
theorem dX7_put_243 : decode cX7_put 243 = .ok (.iload 7, 2) := by decide +kernel
theorem dX7_put_245 : decode cX7_put 245 = .ok (.iload 8, 2) := by decide +kernel
theorem dX7_put_247 : decode cX7_put 247 = .ok (.invokevirtual 102, 3) := by decide +kernel
theorem dX7_put_250 : decode cX7_put 250 = .ok (.iconst (-1), 1) := by decide +kernel
theorem dX7_put_251 : decode cX7_put 251 = .ok (.istore 11, 2) := by decide +kernel
theorem dX7_put_253 : decode cX7_put 253 = .ok (.iload 10, 2) := by decide +kernel
theorem dX7_put_255 : decode cX7_put 255 = .ok (.istore 12, 2) := by decide +kernel
theorem dX7_put_257 : decode cX7_put 257 = .ok (.iload 12, 2) := by decide +kernel
theorem dX7_put_259 : decode cX7_put 259 = .ok (.iconst (-1), 1) := by decide +kernel
theorem dX7_put_260 : decode cX7_put 260 = .ok (.if_icmp .eq 80, 3) := by decide +kernel
theorem dX7_put_263 : decode cX7_put 263 = .ok (.aload_n 0, 1) := by decide +kernel
theorem dX7_put_264 : decode cX7_put 264 = .ok (.iload 12, 2) := by decide +kernel
theorem dX7_put_266 : decode cX7_put 266 = .ok (.invokevirtual 98, 3) := by decide +kernel
theorem dX7_put_269 : decode cX7_put 269 = .ok (.istore 13, 2) := by decide +kernel
theorem dX7_put_271 : decode cX7_put 271 = .ok (.aload_n 0, 1) := by decide +kernel
theorem dX7_put_272 : decode cX7_put 272 = .ok (.aload_n 0, 1) := by decide +kernel
theorem dX7_put_273 : decode cX7_put 273 = .ok (.getfield 36, 3) := by decide +kernel
theorem dX7_put_276 : decode cX7_put 276 = .ok (.iload 12, 2) := by decide +kernel
theorem dX7_put_278 : decode cX7_put 278 = .ok (.iaload, 1) := by decide +kernel
theorem dX7_put_279 : decode cX7_put 279 = .ok (.invokevirtual 98, 3) := by decide +kernel
theorem dX7_put_282 : decode cX7_put 282 = .ok (.istore 14, 2) := by decide +kernel
theorem dX7_put_284 : decode cX7_put 284 = .ok (.aload_n 0, 1) := by decide +kernel
theorem dX7_put_285 : decode cX7_put 285 = .ok (.aload_n 0, 1) := by decide +kernel
theorem dX7_put_286 : decode cX7_put 286 = .ok (.getfield 39, 3) := by decide +kernel
theorem dX7_put_289 : decode cX7_put 289 = .ok (.iload 12, 2) := by decide +kernel
theorem dX7_put_291 : decode cX7_put 291 = .ok (.iaload, 1) := by decide +kernel
theorem dX7_put_292 : decode cX7_put 292 = .ok (.invokevirtual 98, 3) := by decide +kernel
theorem dX7_put_295 : decode cX7_put 295 = .ok (.istore 15, 2) := by decide +kernel
theorem dX7_put_297 : decode cX7_put 297 = .ok (.iconst 3, 1) := by decide +kernel
theorem dX7_put_298 : decode cX7_put 298 = .ok (.iload 14, 2) := by decide +kernel
theorem dX7_put_300 : decode cX7_put 300 = .ok (.imul, 1) := by decide +kernel
theorem dX7_put_301 : decode cX7_put 301 = .ok (.iconst 2, 1) := by decide +kernel
theorem dX7_put_302 : decode cX7_put 302 = .ok (.iload 13, 2) := by decide +kernel
theorem dX7_put_304 : decode cX7_put 304 = .ok (.imul, 1) := by decide +kernel
theorem dX7_put_305 : decode cX7_put 305 = .ok (.if_icmp .gt 14, 3) := by decide +kernel
theorem dX7_put_308 : decode cX7_put 308 = .ok (.iconst 3, 1) := by decide +kernel
theorem dX7_put_309 : decode cX7_put 309 = .ok (.iload 15, 2) := by decide +kernel
theorem dX7_put_311 : decode cX7_put 311 = .ok (.imul, 1) := by decide +kernel
theorem dX7_put_312 : decode cX7_put 312 = .ok (.iconst 2, 1) := by decide +kernel
theorem dX7_put_313 : decode cX7_put 313 = .ok (.iload 13, 2) := by decide +kernel
theorem dX7_put_315 : decode cX7_put 315 = .ok (.imul, 1) := by decide +kernel
theorem dX7_put_316 : decode cX7_put 316 = .ok (.if_icmp .le 8, 3) := by decide +kernel
theorem dX7_put_319 : decode cX7_put 319 = .ok (.iload 12, 2) := by decide +kernel
theorem dX7_put_321 : decode cX7_put 321 = .ok (.goto 5, 3) := by decide +kernel
theorem dX7_put_324 : decode cX7_put 324 = .ok (.iload 11, 2) := by decide +kernel
theorem dX7_put_326 : decode cX7_put 326 = .ok (.istore 11, 2) := by decide +kernel
theorem dX7_put_328 : decode cX7_put 328 = .ok (.aload_n 0, 1) := by decide +kernel
theorem dX7_put_329 : decode cX7_put 329 = .ok (.getfield 42, 3) := by decide +kernel
theorem dX7_put_332 : decode cX7_put 332 = .ok (.iload 12, 2) := by decide +kernel
theorem dX7_put_334 : decode cX7_put 334 = .ok (.iaload, 1) := by decide +kernel
theorem dX7_put_335 : decode cX7_put 335 = .ok (.istore 12, 2) := by decide +kernel
theorem dX7_put_337 : decode cX7_put 337 = .ok (.goto (-80), 3) := by decide +kernel
theorem dX7_put_340 : decode cX7_put 340 = .ok (.iload 11, 2) := by decide +kernel
theorem dX7_put_342 : decode cX7_put 342 = .ok (.iconst (-1), 1) := by decide +kernel
theorem dX7_put_343 : decode cX7_put 343 = .ok (.if_icmp .eq 28, 3) := by decide +kernel
theorem dX7_put_346 : decode cX7_put 346 = .ok (.aload_n 0, 1) := by decide +kernel
theorem dX7_put_347 : decode cX7_put 347 = .ok (.dup, 1) := by decide +kernel
theorem dX7_put_348 : decode cX7_put 348 = .ok (.getfield 132, 3) := by decide +kernel
theorem dX7_put_351 : decode cX7_put 351 = .ok (.iconst 1, 1) := by decide +kernel
theorem dX7_put_352 : decode cX7_put 352 = .ok (.iadd, 1) := by decide +kernel
theorem dX7_put_353 : decode cX7_put 353 = .ok (.putfield 132, 3) := by decide +kernel
theorem dX7_put_356 : decode cX7_put 356 = .ok (.aload_n 0, 1) := by decide +kernel
theorem dX7_put_357 : decode cX7_put 357 = .ok (.dup, 1) := by decide +kernel
theorem dX7_put_358 : decode cX7_put 358 = .ok (.getfield 135, 3) := by decide +kernel
theorem dX7_put_361 : decode cX7_put 361 = .ok (.aload_n 0, 1) := by decide +kernel
theorem dX7_put_362 : decode cX7_put 362 = .ok (.iload 11, 2) := by decide +kernel
theorem dX7_put_364 : decode cX7_put 364 = .ok (.invokevirtual 138, 3) := by decide +kernel
theorem dX7_put_367 : decode cX7_put 367 = .ok (.iadd, 1) := by decide +kernel
theorem dX7_put_368 : decode cX7_put 368 = .ok (.putfield 135, 3) := by decide +kernel
theorem dX7_put_371 : decode cX7_put 371 = .ok (.aload_n 0, 1) := by decide +kernel
theorem dX7_put_372 : decode cX7_put 372 = .ok (.getfield 125, 3) := by decide +kernel
theorem dX7_put_375 : decode cX7_put 375 = .ok (.ireturn, 1) := by decide +kernel
theorem dX7_drop_0 : decode cX7_drop 0 = .ok (.aload_n 0, 1) := by decide +kernel
theorem dX7_drop_1 : decode cX7_drop 1 = .ok (.iload_n 1, 1) := by decide +kernel
theorem dX7_drop_2 : decode cX7_drop 2 = .ok (.invokestatic 117, 3) := by decide +kernel
theorem dX7_drop_5 : decode cX7_drop 5 = .ok (.ifCond .ne 7, 3) := by decide +kernel
theorem dX7_drop_8 : decode cX7_drop 8 = .ok (.iconst 1, 1) := by decide +kernel
theorem dX7_drop_9 : decode cX7_drop 9 = .ok (.goto 17, 3) := by decide +kernel
theorem dX7_drop_12 : decode cX7_drop 12 = .ok (.aload_n 0, 1) := by decide +kernel
theorem dX7_drop_13 : decode cX7_drop 13 = .ok (.getfield 13, 3) := by decide +kernel
theorem dX7_drop_16 : decode cX7_drop 16 = .ok (.iload_n 1, 1) := by decide +kernel
theorem dX7_drop_17 : decode cX7_drop 17 = .ok (.baload, 1) := by decide +kernel
theorem dX7_drop_18 : decode cX7_drop 18 = .ok (.ifCond .ne 7, 3) := by decide +kernel
theorem dX7_drop_21 : decode cX7_drop 21 = .ok (.iconst 2, 1) := by decide +kernel
theorem dX7_drop_22 : decode cX7_drop 22 = .ok (.goto 4, 3) := by decide +kernel
theorem dX7_drop_25 : decode cX7_drop 25 = .ok (.iconst 0, 1) := by decide +kernel
theorem dX7_drop_26 : decode cX7_drop 26 = .ok (.putfield 1, 3) := by decide +kernel
theorem dX7_drop_29 : decode cX7_drop 29 = .ok (.aload_n 0, 1) := by decide +kernel
theorem dX7_drop_30 : decode cX7_drop 30 = .ok (.getfield 1, 3) := by decide +kernel
theorem dX7_drop_33 : decode cX7_drop 33 = .ok (.ifCond .le 5, 3) := by decide +kernel
theorem dX7_drop_36 : decode cX7_drop 36 = .ok (.iconst 0, 1) := by decide +kernel
theorem dX7_drop_37 : decode cX7_drop 37 = .ok (.ireturn, 1) := by decide +kernel
theorem dX7_drop_38 : decode cX7_drop 38 = .ok (.aload_n 0, 1) := by decide +kernel
theorem dX7_drop_39 : decode cX7_drop 39 = .ok (.getfield 13, 3) := by decide +kernel
theorem dX7_drop_42 : decode cX7_drop 42 = .ok (.iload_n 1, 1) := by decide +kernel
theorem dX7_drop_43 : decode cX7_drop 43 = .ok (.iconst 0, 1) := by decide +kernel
theorem dX7_drop_44 : decode cX7_drop 44 = .ok (.bastore, 1) := by decide +kernel
theorem dX7_drop_45 : decode cX7_drop 45 = .ok (.aload_n 0, 1) := by decide +kernel
theorem dX7_drop_46 : decode cX7_drop 46 = .ok (.dup, 1) := by decide +kernel
theorem dX7_drop_47 : decode cX7_drop 47 = .ok (.getfield 125, 3) := by decide +kernel
theorem dX7_drop_50 : decode cX7_drop 50 = .ok (.iconst 1, 1) := by decide +kernel
theorem dX7_drop_51 : decode cX7_drop 51 = .ok (.isub, 1) := by decide +kernel
theorem dX7_drop_52 : decode cX7_drop 52 = .ok (.putfield 125, 3) := by decide +kernel
theorem dX7_drop_55 : decode cX7_drop 55 = .ok (.aload_n 0, 1) := by decide +kernel
theorem dX7_drop_56 : decode cX7_drop 56 = .ok (.getfield 33, 3) := by decide +kernel
theorem dX7_drop_59 : decode cX7_drop 59 = .ok (.aload_n 0, 1) := by decide +kernel
theorem dX7_drop_60 : decode cX7_drop 60 = .ok (.getfield 21, 3) := by decide +kernel
theorem dX7_drop_63 : decode cX7_drop 63 = .ok (.iload_n 1, 1) := by decide +kernel
theorem dX7_drop_64 : decode cX7_drop 64 = .ok (.iaload, 1) := by decide +kernel
theorem dX7_drop_65 : decode cX7_drop 65 = .ok (.iconst 0, 1) := by decide +kernel
theorem dX7_drop_66 : decode cX7_drop 66 = .ok (.bastore, 1) := by decide +kernel
theorem dX7_drop_67 : decode cX7_drop 67 = .ok (.aload_n 0, 1) := by decide +kernel
theorem dX7_drop_68 : decode cX7_drop 68 = .ok (.aload_n 0, 1) := by decide +kernel
theorem dX7_drop_69 : decode cX7_drop 69 = .ok (.getfield 45, 3) := by decide +kernel
theorem dX7_drop_72 : decode cX7_drop 72 = .ok (.invokevirtual 98, 3) := by decide +kernel
theorem dX7_drop_75 : decode cX7_drop 75 = .ok (.istore_n 2, 1) := by decide +kernel
theorem dX7_drop_76 : decode cX7_drop 76 = .ok (.iconst 2, 1) := by decide +kernel
theorem dX7_drop_77 : decode cX7_drop 77 = .ok (.iload_n 2, 1) := by decide +kernel
theorem dX7_drop_78 : decode cX7_drop 78 = .ok (.aload_n 0, 1) := by decide +kernel
theorem dX7_drop_79 : decode cX7_drop 79 = .ok (.getfield 125, 3) := by decide +kernel
theorem dX7_drop_82 : decode cX7_drop 82 = .ok (.isub, 1) := by decide +kernel
theorem dX7_drop_83 : decode cX7_drop 83 = .ok (.imul, 1) := by decide +kernel
theorem dX7_drop_84 : decode cX7_drop 84 = .ok (.iload_n 2, 1) := by decide +kernel
theorem dX7_drop_85 : decode cX7_drop 85 = .ok (.if_icmp .le 30, 3) := by decide +kernel
theorem dX7_drop_88 : decode cX7_drop 88 = .ok (.aload_n 0, 1) := by decide +kernel
theorem dX7_drop_89 : decode cX7_drop 89 = .ok (.dup, 1) := by decide +kernel
theorem dX7_drop_90 : decode cX7_drop 90 = .ok (.getfield 141, 3) := by decide +kernel
theorem dX7_drop_93 : decode cX7_drop 93 = .ok (.iconst 1, 1) := by decide +kernel
theorem dX7_drop_94 : decode cX7_drop 94 = .ok (.iadd, 1) := by decide +kernel
theorem dX7_drop_95 : decode cX7_drop 95 = .ok (.putfield 141, 3) := by decide +kernel
theorem dX7_drop_98 : decode cX7_drop 98 = .ok (.aload_n 0, 1) := by decide +kernel
theorem dX7_drop_99 : decode cX7_drop 99 = .ok (.dup, 1) := by decide +kernel
theorem dX7_drop_100 : decode cX7_drop 100 = .ok (.getfield 135, 3) := by decide +kernel
theorem dX7_drop_103 : decode cX7_drop 103 = .ok (.aload_n 0, 1) := by decide +kernel
theorem dX7_drop_104 : decode cX7_drop 104 = .ok (.aload_n 0, 1) := by decide +kernel
theorem dX7_drop_105 : decode cX7_drop 105 = .ok (.getfield 45, 3) := by decide +kernel
theorem dX7_drop_108 : decode cX7_drop 108 = .ok (.invokevirtual 138, 3) := by decide +kernel
theorem dX7_drop_111 : decode cX7_drop 111 = .ok (.iadd, 1) := by decide +kernel
theorem dX7_drop_112 : decode cX7_drop 112 = .ok (.putfield 135, 3) := by decide +kernel
theorem dX7_drop_115 : decode cX7_drop 115 = .ok (.aload_n 0, 1) := by decide +kernel
theorem dX7_drop_116 : decode cX7_drop 116 = .ok (.getfield 125, 3) := by decide +kernel
theorem dX7_drop_119 : decode cX7_drop 119 = .ok (.ireturn, 1) := by decide +kernel
theorem dX7_at_0 : decode cX7_at 0 = .ok (.aload_n 0, 1) := by decide +kernel
theorem dX7_at_1 : decode cX7_at 1 = .ok (.iload_n 1, 1) := by decide +kernel
theorem dX7_at_2 : decode cX7_at 2 = .ok (.invokestatic 117, 3) := by decide +kernel
theorem dX7_at_5 : decode cX7_at 5 = .ok (.ifCond .eq 15, 3) := by decide +kernel
theorem dX7_at_8 : decode cX7_at 8 = .ok (.iload_n 2, 1) := by decide +kernel
theorem dX7_at_9 : decode cX7_at 9 = .ok (.i2l, 1) := by decide +kernel
theorem dX7_at_10 : decode cX7_at 10 = .ok (.lconst 0, 1) := by decide +kernel
theorem dX7_at_11 : decode cX7_at 11 = .ok (.ldc2_w 144, 3) := by decide +kernel
theorem dX7_at_14 : decode cX7_at 14 = .ok (.invokestatic 90, 3) := by decide +kernel
theorem dX7_at_17 : decode cX7_at 17 = .ok (.ifCond .ne 7, 3) := by decide +kernel
theorem dX7_at_20 : decode cX7_at 20 = .ok (.iconst 1, 1) := by decide +kernel
theorem dX7_at_21 : decode cX7_at 21 = .ok (.goto 17, 3) := by decide +kernel
theorem dX7_at_24 : decode cX7_at 24 = .ok (.aload_n 0, 1) := by decide +kernel
theorem dX7_at_25 : decode cX7_at 25 = .ok (.getfield 13, 3) := by decide +kernel
theorem dX7_at_28 : decode cX7_at 28 = .ok (.iload_n 1, 1) := by decide +kernel
theorem dX7_at_29 : decode cX7_at 29 = .ok (.baload, 1) := by decide +kernel
theorem dX7_at_30 : decode cX7_at 30 = .ok (.ifCond .ne 7, 3) := by decide +kernel
theorem dX7_at_33 : decode cX7_at 33 = .ok (.iconst 2, 1) := by decide +kernel
theorem dX7_at_34 : decode cX7_at 34 = .ok (.goto 4, 3) := by decide +kernel
theorem dX7_at_37 : decode cX7_at 37 = .ok (.iconst 0, 1) := by decide +kernel
theorem dX7_at_38 : decode cX7_at 38 = .ok (.putfield 1, 3) := by decide +kernel
theorem dX7_at_41 : decode cX7_at 41 = .ok (.aload_n 0, 1) := by decide +kernel
theorem dX7_at_42 : decode cX7_at 42 = .ok (.getfield 1, 3) := by decide +kernel
theorem dX7_at_45 : decode cX7_at 45 = .ok (.ifCond .le 7, 3) := by decide +kernel
theorem dX7_at_48 : decode cX7_at 48 = .ok (.iconst 0, 1) := by decide +kernel
theorem dX7_at_49 : decode cX7_at 49 = .ok (.goto 13, 3) := by decide +kernel
theorem dX7_at_52 : decode cX7_at 52 = .ok (.aload_n 0, 1) := by decide +kernel
theorem dX7_at_53 : decode cX7_at 53 = .ok (.getfield 17, 3) := by decide +kernel
theorem dX7_at_56 : decode cX7_at 56 = .ok (.iconst 4, 1) := by decide +kernel
theorem dX7_at_57 : decode cX7_at 57 = .ok (.iload_n 1, 1) := by decide +kernel
theorem dX7_at_58 : decode cX7_at 58 = .ok (.imul, 1) := by decide +kernel
theorem dX7_at_59 : decode cX7_at 59 = .ok (.iload_n 2, 1) := by decide +kernel
theorem dX7_at_60 : decode cX7_at 60 = .ok (.iadd, 1) := by decide +kernel
theorem dX7_at_61 : decode cX7_at 61 = .ok (.iaload, 1) := by decide +kernel
theorem dX7_at_62 : decode cX7_at 62 = .ok (.ireturn, 1) := by decide +kernel
theorem dX7_aimAt_0 : decode cX7_aimAt 0 = .ok (.aload_n 0, 1) := by decide +kernel
theorem dX7_aimAt_1 : decode cX7_aimAt 1 = .ok (.getfield 69, 3) := by decide +kernel
theorem dX7_aimAt_4 : decode cX7_aimAt 4 = .ok (.iconst 0, 1) := by decide +kernel
theorem dX7_aimAt_5 : decode cX7_aimAt 5 = .ok (.iload_n 1, 1) := by decide +kernel
theorem dX7_aimAt_6 : decode cX7_aimAt 6 = .ok (.iastore, 1) := by decide +kernel
theorem dX7_aimAt_7 : decode cX7_aimAt 7 = .ok (.aload_n 0, 1) := by decide +kernel
theorem dX7_aimAt_8 : decode cX7_aimAt 8 = .ok (.getfield 69, 3) := by decide +kernel
theorem dX7_aimAt_11 : decode cX7_aimAt 11 = .ok (.iconst 1, 1) := by decide +kernel
theorem dX7_aimAt_12 : decode cX7_aimAt 12 = .ok (.aload_n 0, 1) := by decide +kernel
theorem dX7_aimAt_13 : decode cX7_aimAt 13 = .ok (.getfield 85, 3) := by decide +kernel
theorem dX7_aimAt_16 : decode cX7_aimAt 16 = .ok (.iconst 1, 1) := by decide +kernel
theorem dX7_aimAt_17 : decode cX7_aimAt 17 = .ok (.if_icmp .le 7, 3) := by decide +kernel
theorem dX7_aimAt_20 : decode cX7_aimAt 20 = .ok (.iload_n 2, 1) := by decide +kernel
theorem dX7_aimAt_21 : decode cX7_aimAt 21 = .ok (.goto 4, 3) := by decide +kernel
theorem dX7_aimAt_24 : decode cX7_aimAt 24 = .ok (.iconst 0, 1) := by decide +kernel
theorem dX7_aimAt_25 : decode cX7_aimAt 25 = .ok (.iastore, 1) := by decide +kernel
theorem dX7_aimAt_26 : decode cX7_aimAt 26 = .ok (.aload_n 0, 1) := by decide +kernel
theorem dX7_aimAt_27 : decode cX7_aimAt 27 = .ok (.getfield 69, 3) := by decide +kernel
theorem dX7_aimAt_30 : decode cX7_aimAt 30 = .ok (.iconst 2, 1) := by decide +kernel
theorem dX7_aimAt_31 : decode cX7_aimAt 31 = .ok (.aload_n 0, 1) := by decide +kernel
theorem dX7_aimAt_32 : decode cX7_aimAt 32 = .ok (.getfield 85, 3) := by decide +kernel
theorem dX7_aimAt_35 : decode cX7_aimAt 35 = .ok (.iconst 2, 1) := by decide +kernel
theorem dX7_aimAt_36 : decode cX7_aimAt 36 = .ok (.if_icmp .le 7, 3) := by decide +kernel
theorem dX7_aimAt_39 : decode cX7_aimAt 39 = .ok (.iload_n 3, 1) := by decide +kernel
theorem dX7_aimAt_40 : decode cX7_aimAt 40 = .ok (.goto 4, 3) := by decide +kernel
theorem dX7_aimAt_43 : decode cX7_aimAt 43 = .ok (.iconst 0, 1) := by decide +kernel
theorem dX7_aimAt_44 : decode cX7_aimAt 44 = .ok (.iastore, 1) := by decide +kernel
theorem dX7_aimAt_45 : decode cX7_aimAt 45 = .ok (.aload_n 0, 1) := by decide +kernel
theorem dX7_aimAt_46 : decode cX7_aimAt 46 = .ok (.getfield 69, 3) := by decide +kernel
theorem dX7_aimAt_49 : decode cX7_aimAt 49 = .ok (.iconst 3, 1) := by decide +kernel
theorem dX7_aimAt_50 : decode cX7_aimAt 50 = .ok (.aload_n 0, 1) := by decide +kernel
theorem dX7_aimAt_51 : decode cX7_aimAt 51 = .ok (.getfield 85, 3) := by decide +kernel
theorem dX7_aimAt_54 : decode cX7_aimAt 54 = .ok (.iconst 3, 1) := by decide +kernel
theorem dX7_aimAt_55 : decode cX7_aimAt 55 = .ok (.if_icmp .le 8, 3) := by decide +kernel
theorem dX7_aimAt_58 : decode cX7_aimAt 58 = .ok (.iload 4, 2) := by decide +kernel
theorem dX7_aimAt_60 : decode cX7_aimAt 60 = .ok (.goto 4, 3) := by decide +kernel
theorem dX7_aimAt_63 : decode cX7_aimAt 63 = .ok (.iconst 0, 1) := by decide +kernel
theorem dX7_aimAt_64 : decode cX7_aimAt 64 = .ok (.iastore, 1) := by decide +kernel
theorem dX7_aimAt_65 : decode cX7_aimAt 65 = .ok (.return_, 1) := by decide +kernel
theorem dX7_away_0 : decode cX7_away 0 = .ok (.lconst 0, 1) := by decide +kernel
theorem dX7_away_1 : decode cX7_away 1 = .ok (.lstore_n 2, 1) := by decide +kernel
theorem dX7_away_2 : decode cX7_away 2 = .ok (.iconst 0, 1) := by decide +kernel
theorem dX7_away_3 : decode cX7_away 3 = .ok (.istore 4, 2) := by decide +kernel
theorem dX7_away_5 : decode cX7_away 5 = .ok (.iload 4, 2) := by decide +kernel
theorem dX7_away_7 : decode cX7_away 7 = .ok (.iconst 4, 1) := by decide +kernel
theorem dX7_away_8 : decode cX7_away 8 = .ok (.if_icmp .ge 39, 3) := by decide +kernel
theorem dX7_away_11 : decode cX7_away 11 = .ok (.aload_n 0, 1) := by decide +kernel
theorem dX7_away_12 : decode cX7_away 12 = .ok (.getfield 69, 3) := by decide +kernel
theorem dX7_away_15 : decode cX7_away 15 = .ok (.iload 4, 2) := by decide +kernel
theorem dX7_away_17 : decode cX7_away 17 = .ok (.iaload, 1) := by decide +kernel
theorem dX7_away_18 : decode cX7_away 18 = .ok (.aload_n 0, 1) := by decide +kernel
theorem dX7_away_19 : decode cX7_away 19 = .ok (.getfield 17, 3) := by decide +kernel
theorem dX7_away_22 : decode cX7_away 22 = .ok (.iconst 4, 1) := by decide +kernel
theorem dX7_away_23 : decode cX7_away 23 = .ok (.iload_n 1, 1) := by decide +kernel
theorem dX7_away_24 : decode cX7_away 24 = .ok (.imul, 1) := by decide +kernel
theorem dX7_away_25 : decode cX7_away 25 = .ok (.iload 4, 2) := by decide +kernel
theorem dX7_away_27 : decode cX7_away 27 = .ok (.iadd, 1) := by decide +kernel
theorem dX7_away_28 : decode cX7_away 28 = .ok (.iaload, 1) := by decide +kernel
theorem dX7_away_29 : decode cX7_away 29 = .ok (.isub, 1) := by decide +kernel
theorem dX7_away_30 : decode cX7_away 30 = .ok (.i2l, 1) := by decide +kernel
theorem dX7_away_31 : decode cX7_away 31 = .ok (.lstore 5, 2) := by decide +kernel
theorem dX7_away_33 : decode cX7_away 33 = .ok (.lload_n 2, 1) := by decide +kernel
theorem dX7_away_34 : decode cX7_away 34 = .ok (.lload 5, 2) := by decide +kernel
theorem dX7_away_36 : decode cX7_away 36 = .ok (.lload 5, 2) := by decide +kernel
theorem dX7_away_38 : decode cX7_away 38 = .ok (.lmul, 1) := by decide +kernel
theorem dX7_away_39 : decode cX7_away 39 = .ok (.ladd, 1) := by decide +kernel
theorem dX7_away_40 : decode cX7_away 40 = .ok (.lstore_n 2, 1) := by decide +kernel
theorem dX7_away_41 : decode cX7_away 41 = .ok (.iinc 4 1, 3) := by decide +kernel
theorem dX7_away_44 : decode cX7_away 44 = .ok (.goto (-39), 3) := by decide +kernel
theorem dX7_away_47 : decode cX7_away 47 = .ok (.lload_n 2, 1) := by decide +kernel
theorem dX7_away_48 : decode cX7_away 48 = .ok (.lreturn, 1) := by decide +kernel
theorem dX7_come_0 : decode cX7_come 0 = .ok (.aload_n 0, 1) := by decide +kernel
theorem dX7_come_1 : decode cX7_come 1 = .ok (.iload_n 1, 1) := by decide +kernel
