theorem dX7_come_2 : decode cX7_come 2 = .ok (.invokevirtual 146, 3) := by decide +kernel
theorem dX7_come_5 : decode cX7_come 5 = .ok (.lstore_n 3, 1) := by decide +kernel
theorem dX7_come_6 : decode cX7_come 6 = .ok (.aload_n 0, 1) := by decide +kernel
theorem dX7_come_7 : decode cX7_come 7 = .ok (.getfield 150, 3) := by decide +kernel
theorem dX7_come_10 : decode cX7_come 10 = .ok (.istore 5, 2) := by decide +kernel
theorem dX7_come_12 : decode cX7_come 12 = .ok (.iload 5, 2) := by decide +kernel
theorem dX7_come_14 : decode cX7_come 14 = .ok (.ifCond .le 50, 3) := by decide +kernel
theorem dX7_come_17 : decode cX7_come 17 = .ok (.aload_n 0, 1) := by decide +kernel
theorem dX7_come_18 : decode cX7_come 18 = .ok (.getfield 75, 3) := by decide +kernel
theorem dX7_come_21 : decode cX7_come 21 = .ok (.iload 5, 2) := by decide +kernel
theorem dX7_come_23 : decode cX7_come 23 = .ok (.iconst 1, 1) := by decide +kernel
theorem dX7_come_24 : decode cX7_come 24 = .ok (.isub, 1) := by decide +kernel
theorem dX7_come_25 : decode cX7_come 25 = .ok (.laload, 1) := by decide +kernel
theorem dX7_come_26 : decode cX7_come 26 = .ok (.lload_n 3, 1) := by decide +kernel
theorem dX7_come_27 : decode cX7_come 27 = .ok (.lcmp, 1) := by decide +kernel
theorem dX7_come_28 : decode cX7_come 28 = .ok (.ifCond .gt 30, 3) := by decide +kernel
theorem dX7_come_31 : decode cX7_come 31 = .ok (.aload_n 0, 1) := by decide +kernel
theorem dX7_come_32 : decode cX7_come 32 = .ok (.getfield 75, 3) := by decide +kernel
theorem dX7_come_35 : decode cX7_come 35 = .ok (.iload 5, 2) := by decide +kernel
theorem dX7_come_37 : decode cX7_come 37 = .ok (.iconst 1, 1) := by decide +kernel
theorem dX7_come_38 : decode cX7_come 38 = .ok (.isub, 1) := by decide +kernel
theorem dX7_come_39 : decode cX7_come 39 = .ok (.laload, 1) := by decide +kernel
theorem dX7_come_40 : decode cX7_come 40 = .ok (.lload_n 3, 1) := by decide +kernel
theorem dX7_come_41 : decode cX7_come 41 = .ok (.lcmp, 1) := by decide +kernel
theorem dX7_come_42 : decode cX7_come 42 = .ok (.ifCond .ne 22, 3) := by decide +kernel
theorem dX7_come_45 : decode cX7_come 45 = .ok (.aload_n 0, 1) := by decide +kernel
theorem dX7_come_46 : decode cX7_come 46 = .ok (.getfield 72, 3) := by decide +kernel
theorem dX7_come_49 : decode cX7_come 49 = .ok (.iload 5, 2) := by decide +kernel
theorem dX7_come_51 : decode cX7_come 51 = .ok (.iconst 1, 1) := by decide +kernel
theorem dX7_come_52 : decode cX7_come 52 = .ok (.isub, 1) := by decide +kernel
theorem dX7_come_53 : decode cX7_come 53 = .ok (.iaload, 1) := by decide +kernel
theorem dX7_come_54 : decode cX7_come 54 = .ok (.iload_n 1, 1) := by decide +kernel
theorem dX7_come_55 : decode cX7_come 55 = .ok (.if_icmp .le 9, 3) := by decide +kernel
theorem dX7_come_58 : decode cX7_come 58 = .ok (.iinc 5 (-1), 3) := by decide +kernel
theorem dX7_come_61 : decode cX7_come 61 = .ok (.goto (-49), 3) := by decide +kernel
theorem dX7_come_64 : decode cX7_come 64 = .ok (.iload 5, 2) := by decide +kernel
theorem dX7_come_66 : decode cX7_come 66 = .ok (.iload_n 2, 1) := by decide +kernel
theorem dX7_come_67 : decode cX7_come 67 = .ok (.if_icmp .ne 4, 3) := by decide +kernel
theorem dX7_come_70 : decode cX7_come 70 = .ok (.return_, 1) := by decide +kernel
theorem dX7_come_71 : decode cX7_come 71 = .ok (.aload_n 0, 1) := by decide +kernel
theorem dX7_come_72 : decode cX7_come 72 = .ok (.getfield 150, 3) := by decide +kernel
theorem dX7_come_75 : decode cX7_come 75 = .ok (.iload_n 2, 1) := by decide +kernel
theorem dX7_come_76 : decode cX7_come 76 = .ok (.if_icmp .ge 10, 3) := by decide +kernel
theorem dX7_come_79 : decode cX7_come 79 = .ok (.aload_n 0, 1) := by decide +kernel
theorem dX7_come_80 : decode cX7_come 80 = .ok (.getfield 150, 3) := by decide +kernel
theorem dX7_come_83 : decode cX7_come 83 = .ok (.goto 6, 3) := by decide +kernel
theorem dX7_come_86 : decode cX7_come 86 = .ok (.iload_n 2, 1) := by decide +kernel
theorem dX7_come_87 : decode cX7_come 87 = .ok (.iconst 1, 1) := by decide +kernel
theorem dX7_come_88 : decode cX7_come 88 = .ok (.isub, 1) := by decide +kernel
theorem dX7_come_89 : decode cX7_come 89 = .ok (.istore 6, 2) := by decide +kernel
theorem dX7_come_91 : decode cX7_come 91 = .ok (.iload 6, 2) := by decide +kernel
theorem dX7_come_93 : decode cX7_come 93 = .ok (.istore 7, 2) := by decide +kernel
theorem dX7_come_95 : decode cX7_come 95 = .ok (.iload 7, 2) := by decide +kernel
theorem dX7_come_97 : decode cX7_come 97 = .ok (.iload 5, 2) := by decide +kernel
theorem dX7_come_99 : decode cX7_come 99 = .ok (.if_icmp .le 41, 3) := by decide +kernel
theorem dX7_come_102 : decode cX7_come 102 = .ok (.aload_n 0, 1) := by decide +kernel
theorem dX7_come_103 : decode cX7_come 103 = .ok (.getfield 72, 3) := by decide +kernel
theorem dX7_come_106 : decode cX7_come 106 = .ok (.iload 7, 2) := by decide +kernel
theorem dX7_come_108 : decode cX7_come 108 = .ok (.aload_n 0, 1) := by decide +kernel
theorem dX7_come_109 : decode cX7_come 109 = .ok (.getfield 72, 3) := by decide +kernel
theorem dX7_come_112 : decode cX7_come 112 = .ok (.iload 7, 2) := by decide +kernel
theorem dX7_come_114 : decode cX7_come 114 = .ok (.iconst 1, 1) := by decide +kernel
theorem dX7_come_115 : decode cX7_come 115 = .ok (.isub, 1) := by decide +kernel
theorem dX7_come_116 : decode cX7_come 116 = .ok (.iaload, 1) := by decide +kernel
theorem dX7_come_117 : decode cX7_come 117 = .ok (.iastore, 1) := by decide +kernel
theorem dX7_come_118 : decode cX7_come 118 = .ok (.aload_n 0, 1) := by decide +kernel
theorem dX7_come_119 : decode cX7_come 119 = .ok (.getfield 75, 3) := by decide +kernel
theorem dX7_come_122 : decode cX7_come 122 = .ok (.iload 7, 2) := by decide +kernel
theorem dX7_come_124 : decode cX7_come 124 = .ok (.aload_n 0, 1) := by decide +kernel
theorem dX7_come_125 : decode cX7_come 125 = .ok (.getfield 75, 3) := by decide +kernel
theorem dX7_come_128 : decode cX7_come 128 = .ok (.iload 7, 2) := by decide +kernel
theorem dX7_come_130 : decode cX7_come 130 = .ok (.iconst 1, 1) := by decide +kernel
theorem dX7_come_131 : decode cX7_come 131 = .ok (.isub, 1) := by decide +kernel
theorem dX7_come_132 : decode cX7_come 132 = .ok (.laload, 1) := by decide +kernel
theorem dX7_come_133 : decode cX7_come 133 = .ok (.lastore, 1) := by decide +kernel
theorem dX7_come_134 : decode cX7_come 134 = .ok (.iinc 7 (-1), 3) := by decide +kernel
theorem dX7_come_137 : decode cX7_come 137 = .ok (.goto (-42), 3) := by decide +kernel
theorem dX7_come_140 : decode cX7_come 140 = .ok (.aload_n 0, 1) := by decide +kernel
theorem dX7_come_141 : decode cX7_come 141 = .ok (.getfield 72, 3) := by decide +kernel
theorem dX7_come_144 : decode cX7_come 144 = .ok (.iload 5, 2) := by decide +kernel
theorem dX7_come_146 : decode cX7_come 146 = .ok (.iload_n 1, 1) := by decide +kernel
theorem dX7_come_147 : decode cX7_come 147 = .ok (.iastore, 1) := by decide +kernel
theorem dX7_come_148 : decode cX7_come 148 = .ok (.aload_n 0, 1) := by decide +kernel
theorem dX7_come_149 : decode cX7_come 149 = .ok (.getfield 75, 3) := by decide +kernel
theorem dX7_come_152 : decode cX7_come 152 = .ok (.iload 5, 2) := by decide +kernel
theorem dX7_come_154 : decode cX7_come 154 = .ok (.lload_n 3, 1) := by decide +kernel
theorem dX7_come_155 : decode cX7_come 155 = .ok (.lastore, 1) := by decide +kernel
theorem dX7_come_156 : decode cX7_come 156 = .ok (.aload_n 0, 1) := by decide +kernel
theorem dX7_come_157 : decode cX7_come 157 = .ok (.iload 6, 2) := by decide +kernel
theorem dX7_come_159 : decode cX7_come 159 = .ok (.iconst 1, 1) := by decide +kernel
theorem dX7_come_160 : decode cX7_come 160 = .ok (.iadd, 1) := by decide +kernel
theorem dX7_come_161 : decode cX7_come 161 = .ok (.putfield 150, 3) := by decide +kernel
theorem dX7_come_164 : decode cX7_come 164 = .ok (.return_, 1) := by decide +kernel
theorem dX7_nearest_0 : decode cX7_nearest 0 = .ok (.aload_n 0, 1) := by decide +kernel
theorem dX7_nearest_1 : decode cX7_nearest 1 = .ok (.iload_n 1, 1) := by decide +kernel
theorem dX7_nearest_2 : decode cX7_nearest 2 = .ok (.i2l, 1) := by decide +kernel
theorem dX7_nearest_3 : decode cX7_nearest 3 = .ok (.lconst 0, 1) := by decide +kernel
theorem dX7_nearest_4 : decode cX7_nearest 4 = .ok (.ldc2_w 153, 3) := by decide +kernel
theorem dX7_nearest_7 : decode cX7_nearest 7 = .ok (.invokestatic 90, 3) := by decide +kernel
theorem dX7_nearest_10 : decode cX7_nearest 10 = .ok (.ifCond .eq 16, 3) := by decide +kernel
theorem dX7_nearest_13 : decode cX7_nearest 13 = .ok (.aload_n 0, 1) := by decide +kernel
theorem dX7_nearest_14 : decode cX7_nearest 14 = .ok (.iload_n 2, 1) := by decide +kernel
theorem dX7_nearest_15 : decode cX7_nearest 15 = .ok (.iload_n 3, 1) := by decide +kernel
theorem dX7_nearest_16 : decode cX7_nearest 16 = .ok (.iload 4, 2) := by decide +kernel
theorem dX7_nearest_18 : decode cX7_nearest 18 = .ok (.iload 5, 2) := by decide +kernel
theorem dX7_nearest_20 : decode cX7_nearest 20 = .ok (.invokevirtual 121, 3) := by decide +kernel
theorem dX7_nearest_23 : decode cX7_nearest 23 = .ok (.ifCond .ne 7, 3) := by decide +kernel
theorem dX7_nearest_26 : decode cX7_nearest 26 = .ok (.iconst 1, 1) := by decide +kernel
theorem dX7_nearest_27 : decode cX7_nearest 27 = .ok (.goto 4, 3) := by decide +kernel
theorem dX7_nearest_30 : decode cX7_nearest 30 = .ok (.iconst 0, 1) := by decide +kernel
theorem dX7_nearest_31 : decode cX7_nearest 31 = .ok (.putfield 1, 3) := by decide +kernel
theorem dX7_nearest_34 : decode cX7_nearest 34 = .ok (.aload_n 0, 1) := by decide +kernel
theorem dX7_nearest_35 : decode cX7_nearest 35 = .ok (.getfield 1, 3) := by decide +kernel
theorem dX7_nearest_38 : decode cX7_nearest 38 = .ok (.ifCond .le 5, 3) := by decide +kernel
theorem dX7_nearest_41 : decode cX7_nearest 41 = .ok (.iconst 0, 1) := by decide +kernel
theorem dX7_nearest_42 : decode cX7_nearest 42 = .ok (.ireturn, 1) := by decide +kernel
theorem dX7_nearest_43 : decode cX7_nearest 43 = .ok (.aload_n 0, 1) := by decide +kernel
theorem dX7_nearest_44 : decode cX7_nearest 44 = .ok (.iload_n 2, 1) := by decide +kernel
theorem dX7_nearest_45 : decode cX7_nearest 45 = .ok (.iload_n 3, 1) := by decide +kernel
theorem dX7_nearest_46 : decode cX7_nearest 46 = .ok (.iload 4, 2) := by decide +kernel
theorem dX7_nearest_48 : decode cX7_nearest 48 = .ok (.iload 5, 2) := by decide +kernel
theorem dX7_nearest_50 : decode cX7_nearest 50 = .ok (.invokevirtual 155, 3) := by decide +kernel
theorem dX7_nearest_53 : decode cX7_nearest 53 = .ok (.aload_n 0, 1) := by decide +kernel
theorem dX7_nearest_54 : decode cX7_nearest 54 = .ok (.iconst 0, 1) := by decide +kernel
theorem dX7_nearest_55 : decode cX7_nearest 55 = .ok (.putfield 150, 3) := by decide +kernel
theorem dX7_nearest_58 : decode cX7_nearest 58 = .ok (.aload_n 0, 1) := by decide +kernel
theorem dX7_nearest_59 : decode cX7_nearest 59 = .ok (.iconst 0, 1) := by decide +kernel
theorem dX7_nearest_60 : decode cX7_nearest 60 = .ok (.putfield 159, 3) := by decide +kernel
theorem dX7_nearest_63 : decode cX7_nearest 63 = .ok (.iconst 0, 1) := by decide +kernel
theorem dX7_nearest_64 : decode cX7_nearest 64 = .ok (.istore 6, 2) := by decide +kernel
theorem dX7_nearest_66 : decode cX7_nearest 66 = .ok (.aload_n 0, 1) := by decide +kernel
theorem dX7_nearest_67 : decode cX7_nearest 67 = .ok (.getfield 45, 3) := by decide +kernel
theorem dX7_nearest_70 : decode cX7_nearest 70 = .ok (.iconst (-1), 1) := by decide +kernel
theorem dX7_nearest_71 : decode cX7_nearest 71 = .ok (.if_icmp .eq 23, 3) := by decide +kernel
theorem dX7_nearest_74 : decode cX7_nearest 74 = .ok (.aload_n 0, 1) := by decide +kernel
theorem dX7_nearest_75 : decode cX7_nearest 75 = .ok (.getfield 51, 3) := by decide +kernel
theorem dX7_nearest_78 : decode cX7_nearest 78 = .ok (.iconst 0, 1) := by decide +kernel
theorem dX7_nearest_79 : decode cX7_nearest 79 = .ok (.aload_n 0, 1) := by decide +kernel
theorem dX7_nearest_80 : decode cX7_nearest 80 = .ok (.getfield 45, 3) := by decide +kernel
theorem dX7_nearest_83 : decode cX7_nearest 83 = .ok (.iastore, 1) := by decide +kernel
theorem dX7_nearest_84 : decode cX7_nearest 84 = .ok (.aload_n 0, 1) := by decide +kernel
theorem dX7_nearest_85 : decode cX7_nearest 85 = .ok (.getfield 79, 3) := by decide +kernel
theorem dX7_nearest_88 : decode cX7_nearest 88 = .ok (.iconst 0, 1) := by decide +kernel
theorem dX7_nearest_89 : decode cX7_nearest 89 = .ok (.iconst 0, 1) := by decide +kernel
theorem dX7_nearest_90 : decode cX7_nearest 90 = .ok (.bastore, 1) := by decide +kernel
theorem dX7_nearest_91 : decode cX7_nearest 91 = .ok (.iconst 1, 1) := by decide +kernel
theorem dX7_nearest_92 : decode cX7_nearest 92 = .ok (.istore 6, 2) := by decide +kernel
theorem dX7_nearest_94 : decode cX7_nearest 94 = .ok (.iload 6, 2) := by decide +kernel
theorem dX7_nearest_96 : decode cX7_nearest 96 = .ok (.ifCond .le 261, 3) := by decide +kernel
theorem dX7_nearest_99 : decode cX7_nearest 99 = .ok (.aload_n 0, 1) := by decide +kernel
theorem dX7_nearest_100 : decode cX7_nearest 100 = .ok (.getfield 51, 3) := by decide +kernel
theorem dX7_nearest_103 : decode cX7_nearest 103 = .ok (.iload 6, 2) := by decide +kernel
theorem dX7_nearest_105 : decode cX7_nearest 105 = .ok (.iconst 1, 1) := by decide +kernel
theorem dX7_nearest_106 : decode cX7_nearest 106 = .ok (.isub, 1) := by decide +kernel
theorem dX7_nearest_107 : decode cX7_nearest 107 = .ok (.iaload, 1) := by decide +kernel
theorem dX7_nearest_108 : decode cX7_nearest 108 = .ok (.istore 7, 2) := by decide +kernel
theorem dX7_nearest_110 : decode cX7_nearest 110 = .ok (.aload_n 0, 1) := by decide +kernel
theorem dX7_nearest_111 : decode cX7_nearest 111 = .ok (.iload 7, 2) := by decide +kernel
theorem dX7_nearest_113 : decode cX7_nearest 113 = .ok (.invokevirtual 106, 3) := by decide +kernel
theorem dX7_nearest_116 : decode cX7_nearest 116 = .ok (.aload_n 0, 1) := by decide +kernel
theorem dX7_nearest_117 : decode cX7_nearest 117 = .ok (.getfield 85, 3) := by decide +kernel
theorem dX7_nearest_120 : decode cX7_nearest 120 = .ok (.irem, 1) := by decide +kernel
theorem dX7_nearest_121 : decode cX7_nearest 121 = .ok (.istore 8, 2) := by decide +kernel
theorem dX7_nearest_123 : decode cX7_nearest 123 = .ok (.aload_n 0, 1) := by decide +kernel
theorem dX7_nearest_124 : decode cX7_nearest 124 = .ok (.getfield 69, 3) := by decide +kernel
theorem dX7_nearest_127 : decode cX7_nearest 127 = .ok (.iload 8, 2) := by decide +kernel
theorem dX7_nearest_129 : decode cX7_nearest 129 = .ok (.iaload, 1) := by decide +kernel
theorem dX7_nearest_130 : decode cX7_nearest 130 = .ok (.aload_n 0, 1) := by decide +kernel
theorem dX7_nearest_131 : decode cX7_nearest 131 = .ok (.getfield 30, 3) := by decide +kernel
theorem dX7_nearest_134 : decode cX7_nearest 134 = .ok (.iconst 4, 1) := by decide +kernel
theorem dX7_nearest_135 : decode cX7_nearest 135 = .ok (.iload 7, 2) := by decide +kernel
theorem dX7_nearest_137 : decode cX7_nearest 137 = .ok (.imul, 1) := by decide +kernel
theorem dX7_nearest_138 : decode cX7_nearest 138 = .ok (.iload 8, 2) := by decide +kernel
theorem dX7_nearest_140 : decode cX7_nearest 140 = .ok (.iadd, 1) := by decide +kernel
theorem dX7_nearest_141 : decode cX7_nearest 141 = .ok (.iaload, 1) := by decide +kernel
theorem dX7_nearest_142 : decode cX7_nearest 142 = .ok (.if_icmp .ge 7, 3) := by decide +kernel
theorem dX7_nearest_145 : decode cX7_nearest 145 = .ok (.iconst 1, 1) := by decide +kernel
theorem dX7_nearest_146 : decode cX7_nearest 146 = .ok (.goto 4, 3) := by decide +kernel
theorem dX7_nearest_149 : decode cX7_nearest 149 = .ok (.iconst 0, 1) := by decide +kernel
theorem dX7_nearest_150 : decode cX7_nearest 150 = .ok (.istore 9, 2) := by decide +kernel
theorem dX7_nearest_152 : decode cX7_nearest 152 = .ok (.aload_n 0, 1) := by decide +kernel
theorem dX7_nearest_153 : decode cX7_nearest 153 = .ok (.getfield 79, 3) := by decide +kernel
theorem dX7_nearest_156 : decode cX7_nearest 156 = .ok (.iload 6, 2) := by decide +kernel
theorem dX7_nearest_158 : decode cX7_nearest 158 = .ok (.iconst 1, 1) := by decide +kernel
theorem dX7_nearest_159 : decode cX7_nearest 159 = .ok (.isub, 1) := by decide +kernel
theorem dX7_nearest_160 : decode cX7_nearest 160 = .ok (.baload, 1) := by decide +kernel
theorem dX7_nearest_161 : decode cX7_nearest 161 = .ok (.ifCond .ne 72, 3) := by decide +kernel
theorem dX7_nearest_164 : decode cX7_nearest 164 = .ok (.aload_n 0, 1) := by decide +kernel
theorem dX7_nearest_165 : decode cX7_nearest 165 = .ok (.getfield 79, 3) := by decide +kernel
theorem dX7_nearest_168 : decode cX7_nearest 168 = .ok (.iload 6, 2) := by decide +kernel
theorem dX7_nearest_170 : decode cX7_nearest 170 = .ok (.iconst 1, 1) := by decide +kernel
theorem dX7_nearest_171 : decode cX7_nearest 171 = .ok (.isub, 1) := by decide +kernel
theorem dX7_nearest_172 : decode cX7_nearest 172 = .ok (.iconst 1, 1) := by decide +kernel
theorem dX7_nearest_173 : decode cX7_nearest 173 = .ok (.bastore, 1) := by decide +kernel
theorem dX7_nearest_174 : decode cX7_nearest 174 = .ok (.aload_n 0, 1) := by decide +kernel
theorem dX7_nearest_175 : decode cX7_nearest 175 = .ok (.dup, 1) := by decide +kernel
theorem dX7_nearest_176 : decode cX7_nearest 176 = .ok (.getfield 159, 3) := by decide +kernel
theorem dX7_nearest_179 : decode cX7_nearest 179 = .ok (.iconst 1, 1) := by decide +kernel
theorem dX7_nearest_180 : decode cX7_nearest 180 = .ok (.iadd, 1) := by decide +kernel
theorem dX7_nearest_181 : decode cX7_nearest 181 = .ok (.putfield 159, 3) := by decide +kernel
theorem dX7_nearest_184 : decode cX7_nearest 184 = .ok (.aload_n 0, 1) := by decide +kernel
theorem dX7_nearest_185 : decode cX7_nearest 185 = .ok (.getfield 33, 3) := by decide +kernel
theorem dX7_nearest_188 : decode cX7_nearest 188 = .ok (.iload 7, 2) := by decide +kernel
theorem dX7_nearest_190 : decode cX7_nearest 190 = .ok (.baload, 1) := by decide +kernel
theorem dX7_nearest_191 : decode cX7_nearest 191 = .ok (.ifCond .eq 15, 3) := by decide +kernel
theorem dX7_nearest_194 : decode cX7_nearest 194 = .ok (.aload_n 0, 1) := by decide +kernel
theorem dX7_nearest_195 : decode cX7_nearest 195 = .ok (.aload_n 0, 1) := by decide +kernel
theorem dX7_nearest_196 : decode cX7_nearest 196 = .ok (.getfield 27, 3) := by decide +kernel
theorem dX7_nearest_199 : decode cX7_nearest 199 = .ok (.iload 7, 2) := by decide +kernel
theorem dX7_nearest_201 : decode cX7_nearest 201 = .ok (.iaload, 1) := by decide +kernel
theorem dX7_nearest_202 : decode cX7_nearest 202 = .ok (.iload_n 1, 1) := by decide +kernel
theorem dX7_nearest_203 : decode cX7_nearest 203 = .ok (.invokevirtual 162, 3) := by decide +kernel
theorem dX7_nearest_206 : decode cX7_nearest 206 = .ok (.iload 9, 2) := by decide +kernel
theorem dX7_nearest_208 : decode cX7_nearest 208 = .ok (.ifCond .eq 13, 3) := by decide +kernel
theorem dX7_nearest_211 : decode cX7_nearest 211 = .ok (.aload_n 0, 1) := by decide +kernel
theorem dX7_nearest_212 : decode cX7_nearest 212 = .ok (.getfield 36, 3) := by decide +kernel
theorem dX7_nearest_215 : decode cX7_nearest 215 = .ok (.iload 7, 2) := by decide +kernel
theorem dX7_nearest_217 : decode cX7_nearest 217 = .ok (.iaload, 1) := by decide +kernel
theorem dX7_nearest_218 : decode cX7_nearest 218 = .ok (.goto 10, 3) := by decide +kernel
theorem dX7_nearest_221 : decode cX7_nearest 221 = .ok (.aload_n 0, 1) := by decide +kernel
theorem dX7_nearest_222 : decode cX7_nearest 222 = .ok (.getfield 39, 3) := by decide +kernel
theorem dX7_nearest_225 : decode cX7_nearest 225 = .ok (.iload 7, 2) := by decide +kernel
theorem dX7_nearest_227 : decode cX7_nearest 227 = .ok (.iaload, 1) := by decide +kernel
theorem dX7_nearest_228 : decode cX7_nearest 228 = .ok (.istore 10, 2) := by decide +kernel
theorem dX7_nearest_230 : decode cX7_nearest 230 = .ok (.goto 98, 3) := by decide +kernel
theorem dX7_nearest_233 : decode cX7_nearest 233 = .ok (.iinc 6 (-1), 3) := by decide +kernel
theorem dX7_nearest_236 : decode cX7_nearest 236 = .ok (.aload_n 0, 1) := by decide +kernel
theorem dX7_nearest_237 : decode cX7_nearest 237 = .ok (.getfield 69, 3) := by decide +kernel
theorem dX7_nearest_240 : decode cX7_nearest 240 = .ok (.iload 8, 2) := by decide +kernel
theorem dX7_nearest_242 : decode cX7_nearest 242 = .ok (.iaload, 1) := by decide +kernel
theorem dX7_nearest_243 : decode cX7_nearest 243 = .ok (.aload_n 0, 1) := by decide +kernel
theorem dX7_nearest_244 : decode cX7_nearest 244 = .ok (.getfield 30, 3) := by decide +kernel
theorem dX7_nearest_247 : decode cX7_nearest 247 = .ok (.iconst 4, 1) := by decide +kernel
theorem dX7_nearest_248 : decode cX7_nearest 248 = .ok (.iload 7, 2) := by decide +kernel
theorem dX7_nearest_250 : decode cX7_nearest 250 = .ok (.imul, 1) := by decide +kernel
theorem dX7_nearest_251 : decode cX7_nearest 251 = .ok (.iload 8, 2) := by decide +kernel
theorem dX7_nearest_253 : decode cX7_nearest 253 = .ok (.iadd, 1) := by decide +kernel
theorem dX7_nearest_254 : decode cX7_nearest 254 = .ok (.iaload, 1) := by decide +kernel
theorem dX7_nearest_255 : decode cX7_nearest 255 = .ok (.isub, 1) := by decide +kernel
theorem dX7_nearest_256 : decode cX7_nearest 256 = .ok (.i2l, 1) := by decide +kernel
theorem dX7_nearest_257 : decode cX7_nearest 257 = .ok (.lstore 11, 2) := by decide +kernel
theorem dX7_nearest_259 : decode cX7_nearest 259 = .ok (.iload_n 1, 1) := by decide +kernel
theorem dX7_nearest_260 : decode cX7_nearest 260 = .ok (.ifCond .le 32, 3) := by decide +kernel
theorem dX7_nearest_263 : decode cX7_nearest 263 = .ok (.aload_n 0, 1) := by decide +kernel
theorem dX7_nearest_264 : decode cX7_nearest 264 = .ok (.getfield 150, 3) := by decide +kernel
theorem dX7_nearest_267 : decode cX7_nearest 267 = .ok (.iload_n 1, 1) := by decide +kernel
theorem dX7_nearest_268 : decode cX7_nearest 268 = .ok (.if_icmp .lt 20, 3) := by decide +kernel
theorem dX7_nearest_271 : decode cX7_nearest 271 = .ok (.lload 11, 2) := by decide +kernel
theorem dX7_nearest_273 : decode cX7_nearest 273 = .ok (.lload 11, 2) := by decide +kernel
theorem dX7_nearest_275 : decode cX7_nearest 275 = .ok (.lmul, 1) := by decide +kernel
theorem dX7_nearest_276 : decode cX7_nearest 276 = .ok (.aload_n 0, 1) := by decide +kernel
theorem dX7_nearest_277 : decode cX7_nearest 277 = .ok (.getfield 75, 3) := by decide +kernel
theorem dX7_nearest_280 : decode cX7_nearest 280 = .ok (.iload_n 1, 1) := by decide +kernel
theorem dX7_nearest_281 : decode cX7_nearest 281 = .ok (.iconst 1, 1) := by decide +kernel
theorem dX7_nearest_282 : decode cX7_nearest 282 = .ok (.isub, 1) := by decide +kernel
theorem dX7_nearest_283 : decode cX7_nearest 283 = .ok (.laload, 1) := by decide +kernel
theorem dX7_nearest_284 : decode cX7_nearest 284 = .ok (.lcmp, 1) := by decide +kernel
theorem dX7_nearest_285 : decode cX7_nearest 285 = .ok (.ifCond .gt 7, 3) := by decide +kernel
theorem dX7_nearest_288 : decode cX7_nearest 288 = .ok (.iconst 1, 1) := by decide +kernel
theorem dX7_nearest_289 : decode cX7_nearest 289 = .ok (.goto 4, 3) := by decide +kernel
theorem dX7_nearest_292 : decode cX7_nearest 292 = .ok (.iconst 0, 1) := by decide +kernel
theorem dX7_nearest_293 : decode cX7_nearest 293 = .ok (.istore 13, 2) := by decide +kernel
theorem dX7_nearest_295 : decode cX7_nearest 295 = .ok (.iload 13, 2) := by decide +kernel
theorem dX7_nearest_297 : decode cX7_nearest 297 = .ok (.ifCond .ne 7, 3) := by decide +kernel
theorem dX7_nearest_300 : decode cX7_nearest 300 = .ok (.iconst (-1), 1) := by decide +kernel
theorem dX7_nearest_301 : decode cX7_nearest 301 = .ok (.goto 25, 3) := by decide +kernel
theorem dX7_nearest_304 : decode cX7_nearest 304 = .ok (.iload 9, 2) := by decide +kernel
theorem dX7_nearest_306 : decode cX7_nearest 306 = .ok (.ifCond .eq 13, 3) := by decide +kernel
theorem dX7_nearest_309 : decode cX7_nearest 309 = .ok (.aload_n 0, 1) := by decide +kernel
theorem dX7_nearest_310 : decode cX7_nearest 310 = .ok (.getfield 39, 3) := by decide +kernel
theorem dX7_nearest_313 : decode cX7_nearest 313 = .ok (.iload 7, 2) := by decide +kernel
theorem dX7_nearest_315 : decode cX7_nearest 315 = .ok (.iaload, 1) := by decide +kernel
theorem dX7_nearest_316 : decode cX7_nearest 316 = .ok (.goto 10, 3) := by decide +kernel
theorem dX7_nearest_319 : decode cX7_nearest 319 = .ok (.aload_n 0, 1) := by decide +kernel
theorem dX7_nearest_320 : decode cX7_nearest 320 = .ok (.getfield 36, 3) := by decide +kernel
theorem dX7_nearest_323 : decode cX7_nearest 323 = .ok (.iload 7, 2) := by decide +kernel
theorem dX7_nearest_325 : decode cX7_nearest 325 = .ok (.iaload, 1) := by decide +kernel
theorem dX7_nearest_326 : decode cX7_nearest 326 = .ok (.istore 10, 2) := by decide +kernel
theorem dX7_nearest_328 : decode cX7_nearest 328 = .ok (.iload 10, 2) := by decide +kernel
theorem dX7_nearest_330 : decode cX7_nearest 330 = .ok (.iconst (-1), 1) := by decide +kernel
theorem dX7_nearest_331 : decode cX7_nearest 331 = .ok (.if_icmp .eq 23, 3) := by decide +kernel
theorem dX7_nearest_334 : decode cX7_nearest 334 = .ok (.aload_n 0, 1) := by decide +kernel
theorem dX7_nearest_335 : decode cX7_nearest 335 = .ok (.getfield 51, 3) := by decide +kernel
theorem dX7_nearest_338 : decode cX7_nearest 338 = .ok (.iload 6, 2) := by decide +kernel
theorem dX7_nearest_340 : decode cX7_nearest 340 = .ok (.iload 10, 2) := by decide +kernel
theorem dX7_nearest_342 : decode cX7_nearest 342 = .ok (.iastore, 1) := by decide +kernel
theorem dX7_nearest_343 : decode cX7_nearest 343 = .ok (.aload_n 0, 1) := by decide +kernel
theorem dX7_nearest_344 : decode cX7_nearest 344 = .ok (.getfield 79, 3) := by decide +kernel
theorem dX7_nearest_347 : decode cX7_nearest 347 = .ok (.iload 6, 2) := by decide +kernel
theorem dX7_nearest_349 : decode cX7_nearest 349 = .ok (.iconst 0, 1) := by decide +kernel
theorem dX7_nearest_350 : decode cX7_nearest 350 = .ok (.bastore, 1) := by decide +kernel
theorem dX7_nearest_351 : decode cX7_nearest 351 = .ok (.iinc 6 1, 3) := by decide +kernel
theorem dX7_nearest_354 : decode cX7_nearest 354 = .ok (.goto (-260), 3) := by decide +kernel
theorem dX7_nearest_357 : decode cX7_nearest 357 = .ok (.aload_n 0, 1) := by decide +kernel
theorem dX7_nearest_358 : decode cX7_nearest 358 = .ok (.getfield 150, 3) := by decide +kernel
theorem dX7_nearest_361 : decode cX7_nearest 361 = .ok (.ireturn, 1) := by decide +kernel
theorem dX7_within_0 : decode cX7_within 0 = .ok (.aload_n 0, 1) := by decide +kernel
theorem dX7_within_1 : decode cX7_within 1 = .ok (.lload_n 1, 1) := by decide +kernel
theorem dX7_within_2 : decode cX7_within 2 = .ok (.lconst 0, 1) := by decide +kernel
theorem dX7_within_3 : decode cX7_within 3 = .ok (.lcmp, 1) := by decide +kernel
theorem dX7_within_4 : decode cX7_within 4 = .ok (.ifCond .lt 17, 3) := by decide +kernel
theorem dX7_within_7 : decode cX7_within 7 = .ok (.aload_n 0, 1) := by decide +kernel
theorem dX7_within_8 : decode cX7_within 8 = .ok (.iload_n 3, 1) := by decide +kernel
theorem dX7_within_9 : decode cX7_within 9 = .ok (.iload 4, 2) := by decide +kernel
theorem dX7_within_11 : decode cX7_within 11 = .ok (.iload 5, 2) := by decide +kernel
theorem dX7_within_13 : decode cX7_within 13 = .ok (.iload 6, 2) := by decide +kernel
theorem dX7_within_15 : decode cX7_within 15 = .ok (.invokevirtual 121, 3) := by decide +kernel
theorem dX7_within_18 : decode cX7_within 18 = .ok (.ifCond .ne 7, 3) := by decide +kernel
theorem dX7_within_21 : decode cX7_within 21 = .ok (.iconst 1, 1) := by decide +kernel
theorem dX7_within_22 : decode cX7_within 22 = .ok (.goto 4, 3) := by decide +kernel
theorem dX7_within_25 : decode cX7_within 25 = .ok (.iconst 0, 1) := by decide +kernel
theorem dX7_within_26 : decode cX7_within 26 = .ok (.putfield 1, 3) := by decide +kernel
theorem dX7_within_29 : decode cX7_within 29 = .ok (.aload_n 0, 1) := by decide +kernel
theorem dX7_within_30 : decode cX7_within 30 = .ok (.getfield 1, 3) := by decide +kernel
theorem dX7_within_33 : decode cX7_within 33 = .ok (.ifCond .le 5, 3) := by decide +kernel
theorem dX7_within_36 : decode cX7_within 36 = .ok (.iconst 0, 1) := by decide +kernel
theorem dX7_within_37 : decode cX7_within 37 = .ok (.ireturn, 1) := by decide +kernel
theorem dX7_within_38 : decode cX7_within 38 = .ok (.aload_n 0, 1) := by decide +kernel
theorem dX7_within_39 : decode cX7_within 39 = .ok (.iload_n 3, 1) := by decide +kernel
theorem dX7_within_40 : decode cX7_within 40 = .ok (.iload 4, 2) := by decide +kernel
theorem dX7_within_42 : decode cX7_within 42 = .ok (.iload 5, 2) := by decide +kernel
theorem dX7_within_44 : decode cX7_within 44 = .ok (.iload 6, 2) := by decide +kernel
theorem dX7_within_46 : decode cX7_within 46 = .ok (.invokevirtual 155, 3) := by decide +kernel
theorem dX7_within_49 : decode cX7_within 49 = .ok (.aload_n 0, 1) := by decide +kernel
theorem dX7_within_50 : decode cX7_within 50 = .ok (.iconst 0, 1) := by decide +kernel
theorem dX7_within_51 : decode cX7_within 51 = .ok (.putfield 150, 3) := by decide +kernel
theorem dX7_within_54 : decode cX7_within 54 = .ok (.iconst 0, 1) := by decide +kernel
theorem dX7_within_55 : decode cX7_within 55 = .ok (.istore 7, 2) := by decide +kernel
theorem dX7_within_57 : decode cX7_within 57 = .ok (.iload 7, 2) := by decide +kernel
theorem dX7_within_59 : decode cX7_within 59 = .ok (.bipush 100, 2) := by decide +kernel
theorem dX7_within_61 : decode cX7_within 61 = .ok (.if_icmp .ge 38, 3) := by decide +kernel
theorem dX7_within_64 : decode cX7_within 64 = .ok (.aload_n 0, 1) := by decide +kernel
theorem dX7_within_65 : decode cX7_within 65 = .ok (.getfield 13, 3) := by decide +kernel
theorem dX7_within_68 : decode cX7_within 68 = .ok (.iload 7, 2) := by decide +kernel
theorem dX7_within_70 : decode cX7_within 70 = .ok (.baload, 1) := by decide +kernel
theorem dX7_within_71 : decode cX7_within 71 = .ok (.ifCond .eq 22, 3) := by decide +kernel
theorem dX7_within_74 : decode cX7_within 74 = .ok (.aload_n 0, 1) := by decide +kernel
theorem dX7_within_75 : decode cX7_within 75 = .ok (.iload 7, 2) := by decide +kernel
theorem dX7_within_77 : decode cX7_within 77 = .ok (.invokevirtual 146, 3) := by decide +kernel
theorem dX7_within_80 : decode cX7_within 80 = .ok (.lload_n 1, 1) := by decide +kernel
theorem dX7_within_81 : decode cX7_within 81 = .ok (.lcmp, 1) := by decide +kernel
theorem dX7_within_82 : decode cX7_within 82 = .ok (.ifCond .gt 11, 3) := by decide +kernel
theorem dX7_within_85 : decode cX7_within 85 = .ok (.aload_n 0, 1) := by decide +kernel
theorem dX7_within_86 : decode cX7_within 86 = .ok (.iload 7, 2) := by decide +kernel
theorem dX7_within_88 : decode cX7_within 88 = .ok (.bipush 100, 2) := by decide +kernel
theorem dX7_within_90 : decode cX7_within 90 = .ok (.invokevirtual 162, 3) := by decide +kernel
theorem dX7_within_93 : decode cX7_within 93 = .ok (.iinc 7 1, 3) := by decide +kernel
theorem dX7_within_96 : decode cX7_within 96 = .ok (.goto (-39), 3) := by decide +kernel
theorem dX7_within_99 : decode cX7_within 99 = .ok (.aload_n 0, 1) := by decide +kernel
theorem dX7_within_100 : decode cX7_within 100 = .ok (.getfield 150, 3) := by decide +kernel
theorem dX7_within_103 : decode cX7_within 103 = .ok (.ireturn, 1) := by decide +kernel
theorem dX7_listed_0 : decode cX7_listed 0 = .ok (.aload_n 0, 1) := by decide +kernel
theorem dX7_listed_1 : decode cX7_listed 1 = .ok (.iload_n 1, 1) := by decide +kernel
theorem dX7_listed_2 : decode cX7_listed 2 = .ok (.i2l, 1) := by decide +kernel
theorem dX7_listed_3 : decode cX7_listed 3 = .ok (.lconst 0, 1) := by decide +kernel
theorem dX7_listed_4 : decode cX7_listed 4 = .ok (.aload_n 0, 1) := by decide +kernel
theorem dX7_listed_5 : decode cX7_listed 5 = .ok (.getfield 150, 3) := by decide +kernel
theorem dX7_listed_8 : decode cX7_listed 8 = .ok (.iconst 1, 1) := by decide +kernel
theorem dX7_listed_9 : decode cX7_listed 9 = .ok (.isub, 1) := by decide +kernel
theorem dX7_listed_10 : decode cX7_listed 10 = .ok (.i2l, 1) := by decide +kernel
theorem dX7_listed_11 : decode cX7_listed 11 = .ok (.invokestatic 90, 3) := by decide +kernel
theorem dX7_listed_14 : decode cX7_listed 14 = .ok (.ifCond .eq 7, 3) := by decide +kernel
theorem dX7_listed_17 : decode cX7_listed 17 = .ok (.iconst 0, 1) := by decide +kernel
theorem dX7_listed_18 : decode cX7_listed 18 = .ok (.goto 4, 3) := by decide +kernel
theorem dX7_listed_21 : decode cX7_listed 21 = .ok (.iconst 1, 1) := by decide +kernel
theorem dX7_listed_22 : decode cX7_listed 22 = .ok (.putfield 1, 3) := by decide +kernel
theorem dX7_listed_25 : decode cX7_listed 25 = .ok (.aload_n 0, 1) := by decide +kernel
theorem dX7_listed_26 : decode cX7_listed 26 = .ok (.getfield 1, 3) := by decide +kernel
theorem dX7_listed_29 : decode cX7_listed 29 = .ok (.ifCond .le 7, 3) := by decide +kernel
theorem dX7_listed_32 : decode cX7_listed 32 = .ok (.iconst 0, 1) := by decide +kernel
theorem dX7_listed_33 : decode cX7_listed 33 = .ok (.goto 9, 3) := by decide +kernel
theorem dX7_listed_36 : decode cX7_listed 36 = .ok (.aload_n 0, 1) := by decide +kernel
theorem dX7_listed_37 : decode cX7_listed 37 = .ok (.getfield 72, 3) := by decide +kernel
theorem dX7_listed_40 : decode cX7_listed 40 = .ok (.iload_n 1, 1) := by decide +kernel
theorem dX7_listed_41 : decode cX7_listed 41 = .ok (.iaload, 1) := by decide +kernel
theorem dX7_listed_42 : decode cX7_listed 42 = .ok (.ireturn, 1) := by decide +kernel
theorem dX7_distance_0 : decode cX7_distance 0 = .ok (.aload_n 0, 1) := by decide +kernel
theorem dX7_distance_1 : decode cX7_distance 1 = .ok (.iload_n 1, 1) := by decide +kernel
theorem dX7_distance_2 : decode cX7_distance 2 = .ok (.i2l, 1) := by decide +kernel
theorem dX7_distance_3 : decode cX7_distance 3 = .ok (.lconst 0, 1) := by decide +kernel
theorem dX7_distance_4 : decode cX7_distance 4 = .ok (.aload_n 0, 1) := by decide +kernel
theorem dX7_distance_5 : decode cX7_distance 5 = .ok (.getfield 150, 3) := by decide +kernel
theorem dX7_distance_8 : decode cX7_distance 8 = .ok (.iconst 1, 1) := by decide +kernel
theorem dX7_distance_9 : decode cX7_distance 9 = .ok (.isub, 1) := by decide +kernel
theorem dX7_distance_10 : decode cX7_distance 10 = .ok (.i2l, 1) := by decide +kernel
theorem dX7_distance_11 : decode cX7_distance 11 = .ok (.invokestatic 90, 3) := by decide +kernel
theorem dX7_distance_14 : decode cX7_distance 14 = .ok (.ifCond .eq 7, 3) := by decide +kernel
theorem dX7_distance_17 : decode cX7_distance 17 = .ok (.iconst 0, 1) := by decide +kernel
theorem dX7_distance_18 : decode cX7_distance 18 = .ok (.goto 4, 3) := by decide +kernel
theorem dX7_distance_21 : decode cX7_distance 21 = .ok (.iconst 1, 1) := by decide +kernel
theorem dX7_distance_22 : decode cX7_distance 22 = .ok (.putfield 1, 3) := by decide +kernel
theorem dX7_distance_25 : decode cX7_distance 25 = .ok (.aload_n 0, 1) := by decide +kernel
theorem dX7_distance_26 : decode cX7_distance 26 = .ok (.getfield 1, 3) := by decide +kernel
theorem dX7_distance_29 : decode cX7_distance 29 = .ok (.ifCond .le 7, 3) := by decide +kernel
theorem dX7_distance_32 : decode cX7_distance 32 = .ok (.lconst 0, 1) := by decide +kernel
theorem dX7_distance_33 : decode cX7_distance 33 = .ok (.goto 9, 3) := by decide +kernel
theorem dX7_distance_36 : decode cX7_distance 36 = .ok (.aload_n 0, 1) := by decide +kernel
theorem dX7_distance_37 : decode cX7_distance 37 = .ok (.getfield 75, 3) := by decide +kernel
theorem dX7_distance_40 : decode cX7_distance 40 = .ok (.iload_n 1, 1) := by decide +kernel
theorem dX7_distance_41 : decode cX7_distance 41 = .ok (.laload, 1) := by decide +kernel
theorem dX7_distance_42 : decode cX7_distance 42 = .ok (.lreturn, 1) := by decide +kernel
theorem dX7_looked_0 : decode cX7_looked 0 = .ok (.aload_n 0, 1) := by decide +kernel
theorem dX7_looked_1 : decode cX7_looked 1 = .ok (.iconst 0, 1) := by decide +kernel
theorem dX7_looked_2 : decode cX7_looked 2 = .ok (.putfield 1, 3) := by decide +kernel
theorem dX7_looked_5 : decode cX7_looked 5 = .ok (.aload_n 0, 1) := by decide +kernel
theorem dX7_looked_6 : decode cX7_looked 6 = .ok (.getfield 159, 3) := by decide +kernel
theorem dX7_looked_9 : decode cX7_looked 9 = .ok (.ireturn, 1) := by decide +kernel
theorem dX7_inBox_0 : decode cX7_inBox 0 = .ok (.aload_n 0, 1) := by decide +kernel
theorem dX7_inBox_1 : decode cX7_inBox 1 = .ok (.iload_n 1, 1) := by decide +kernel
theorem dX7_inBox_2 : decode cX7_inBox 2 = .ok (.i2l, 1) := by decide +kernel
theorem dX7_inBox_3 : decode cX7_inBox 3 = .ok (.lconst 0, 1) := by decide +kernel
theorem dX7_inBox_4 : decode cX7_inBox 4 = .ok (.aload_n 0, 1) := by decide +kernel
theorem dX7_inBox_5 : decode cX7_inBox 5 = .ok (.getfield 85, 3) := by decide +kernel
theorem dX7_inBox_8 : decode cX7_inBox 8 = .ok (.iconst 1, 1) := by decide +kernel
theorem dX7_inBox_9 : decode cX7_inBox 9 = .ok (.isub, 1) := by decide +kernel
theorem dX7_inBox_10 : decode cX7_inBox 10 = .ok (.i2l, 1) := by decide +kernel
theorem dX7_inBox_11 : decode cX7_inBox 11 = .ok (.invokestatic 90, 3) := by decide +kernel
theorem dX7_inBox_14 : decode cX7_inBox 14 = .ok (.ifCond .eq 24, 3) := by decide +kernel
theorem dX7_inBox_17 : decode cX7_inBox 17 = .ok (.iload 4, 2) := by decide +kernel
theorem dX7_inBox_19 : decode cX7_inBox 19 = .ok (.i2l, 1) := by decide +kernel
theorem dX7_inBox_20 : decode cX7_inBox 20 = .ok (.lconst 0, 1) := by decide +kernel
theorem dX7_inBox_21 : decode cX7_inBox 21 = .ok (.aload_n 0, 1) := by decide +kernel
theorem dX7_inBox_22 : decode cX7_inBox 22 = .ok (.getfield 85, 3) := by decide +kernel
theorem dX7_inBox_25 : decode cX7_inBox 25 = .ok (.iconst 1, 1) := by decide +kernel
theorem dX7_inBox_26 : decode cX7_inBox 26 = .ok (.isub, 1) := by decide +kernel
theorem dX7_inBox_27 : decode cX7_inBox 27 = .ok (.i2l, 1) := by decide +kernel
theorem dX7_inBox_28 : decode cX7_inBox 28 = .ok (.invokestatic 90, 3) := by decide +kernel
theorem dX7_inBox_31 : decode cX7_inBox 31 = .ok (.ifCond .eq 7, 3) := by decide +kernel
theorem dX7_inBox_34 : decode cX7_inBox 34 = .ok (.iconst 0, 1) := by decide +kernel
theorem dX7_inBox_35 : decode cX7_inBox 35 = .ok (.goto 4, 3) := by decide +kernel
theorem dX7_inBox_38 : decode cX7_inBox 38 = .ok (.iconst 1, 1) := by decide +kernel
theorem dX7_inBox_39 : decode cX7_inBox 39 = .ok (.putfield 1, 3) := by decide +kernel
theorem dX7_inBox_42 : decode cX7_inBox 42 = .ok (.aload_n 0, 1) := by decide +kernel
theorem dX7_inBox_43 : decode cX7_inBox 43 = .ok (.getfield 1, 3) := by decide +kernel
theorem dX7_inBox_46 : decode cX7_inBox 46 = .ok (.ifCond .le 5, 3) := by decide +kernel
theorem dX7_inBox_49 : decode cX7_inBox 49 = .ok (.iconst 0, 1) := by decide +kernel
theorem dX7_inBox_50 : decode cX7_inBox 50 = .ok (.ireturn, 1) := by decide +kernel
theorem dX7_inBox_51 : decode cX7_inBox 51 = .ok (.iconst 0, 1) := by decide +kernel
theorem dX7_inBox_52 : decode cX7_inBox 52 = .ok (.istore 7, 2) := by decide +kernel
theorem dX7_inBox_54 : decode cX7_inBox 54 = .ok (.iconst 0, 1) := by decide +kernel
theorem dX7_inBox_55 : decode cX7_inBox 55 = .ok (.istore 8, 2) := by decide +kernel
theorem dX7_inBox_57 : decode cX7_inBox 57 = .ok (.iload 8, 2) := by decide +kernel
theorem dX7_inBox_59 : decode cX7_inBox 59 = .ok (.bipush 100, 2) := by decide +kernel
theorem dX7_inBox_61 : decode cX7_inBox 61 = .ok (.if_icmp .ge 76, 3) := by decide +kernel
theorem dX7_inBox_64 : decode cX7_inBox 64 = .ok (.iload 7, 2) := by decide +kernel
theorem dX7_inBox_66 : decode cX7_inBox 66 = .ok (.aload_n 0, 1) := by decide +kernel
theorem dX7_inBox_67 : decode cX7_inBox 67 = .ok (.getfield 13, 3) := by decide +kernel
theorem dX7_inBox_70 : decode cX7_inBox 70 = .ok (.iload 8, 2) := by decide +kernel
theorem dX7_inBox_72 : decode cX7_inBox 72 = .ok (.baload, 1) := by decide +kernel
theorem dX7_inBox_73 : decode cX7_inBox 73 = .ok (.ifCond .eq 54, 3) := by decide +kernel
theorem dX7_inBox_76 : decode cX7_inBox 76 = .ok (.aload_n 0, 1) := by decide +kernel
theorem dX7_inBox_77 : decode cX7_inBox 77 = .ok (.getfield 17, 3) := by decide +kernel
theorem dX7_inBox_80 : decode cX7_inBox 80 = .ok (.iconst 4, 1) := by decide +kernel
theorem dX7_inBox_81 : decode cX7_inBox 81 = .ok (.iload 8, 2) := by decide +kernel
theorem dX7_inBox_83 : decode cX7_inBox 83 = .ok (.imul, 1) := by decide +kernel
theorem dX7_inBox_84 : decode cX7_inBox 84 = .ok (.iload_n 1, 1) := by decide +kernel
theorem dX7_inBox_85 : decode cX7_inBox 85 = .ok (.iadd, 1) := by decide +kernel
theorem dX7_inBox_86 : decode cX7_inBox 86 = .ok (.iaload, 1) := by decide +kernel
theorem dX7_inBox_87 : decode cX7_inBox 87 = .ok (.i2l, 1) := by decide +kernel
theorem dX7_inBox_88 : decode cX7_inBox 88 = .ok (.iload_n 2, 1) := by decide +kernel
theorem dX7_inBox_89 : decode cX7_inBox 89 = .ok (.i2l, 1) := by decide +kernel
theorem dX7_inBox_90 : decode cX7_inBox 90 = .ok (.iload_n 3, 1) := by decide +kernel
theorem dX7_inBox_91 : decode cX7_inBox 91 = .ok (.i2l, 1) := by decide +kernel
theorem dX7_inBox_92 : decode cX7_inBox 92 = .ok (.invokestatic 90, 3) := by decide +kernel
theorem dX7_inBox_95 : decode cX7_inBox 95 = .ok (.ifCond .eq 32, 3) := by decide +kernel
theorem dX7_inBox_98 : decode cX7_inBox 98 = .ok (.aload_n 0, 1) := by decide +kernel
theorem dX7_inBox_99 : decode cX7_inBox 99 = .ok (.getfield 17, 3) := by decide +kernel
theorem dX7_inBox_102 : decode cX7_inBox 102 = .ok (.iconst 4, 1) := by decide +kernel
theorem dX7_inBox_103 : decode cX7_inBox 103 = .ok (.iload 8, 2) := by decide +kernel
theorem dX7_inBox_105 : decode cX7_inBox 105 = .ok (.imul, 1) := by decide +kernel
theorem dX7_inBox_106 : decode cX7_inBox 106 = .ok (.iload 4, 2) := by decide +kernel
theorem dX7_inBox_108 : decode cX7_inBox 108 = .ok (.iadd, 1) := by decide +kernel
theorem dX7_inBox_109 : decode cX7_inBox 109 = .ok (.iaload, 1) := by decide +kernel
theorem dX7_inBox_110 : decode cX7_inBox 110 = .ok (.i2l, 1) := by decide +kernel
theorem dX7_inBox_111 : decode cX7_inBox 111 = .ok (.iload 5, 2) := by decide +kernel
theorem dX7_inBox_113 : decode cX7_inBox 113 = .ok (.i2l, 1) := by decide +kernel
theorem dX7_inBox_114 : decode cX7_inBox 114 = .ok (.iload 6, 2) := by decide +kernel
theorem dX7_inBox_116 : decode cX7_inBox 116 = .ok (.i2l, 1) := by decide +kernel
theorem dX7_inBox_117 : decode cX7_inBox 117 = .ok (.invokestatic 90, 3) := by decide +kernel
theorem dX7_inBox_120 : decode cX7_inBox 120 = .ok (.ifCond .eq 7, 3) := by decide +kernel
theorem dX7_inBox_123 : decode cX7_inBox 123 = .ok (.iconst 1, 1) := by decide +kernel
theorem dX7_inBox_124 : decode cX7_inBox 124 = .ok (.goto 4, 3) := by decide +kernel
theorem dX7_inBox_127 : decode cX7_inBox 127 = .ok (.iconst 0, 1) := by decide +kernel
theorem dX7_inBox_128 : decode cX7_inBox 128 = .ok (.iadd, 1) := by decide +kernel
theorem dX7_inBox_129 : decode cX7_inBox 129 = .ok (.istore 7, 2) := by decide +kernel
theorem dX7_inBox_131 : decode cX7_inBox 131 = .ok (.iinc 8 1, 3) := by decide +kernel
theorem dX7_inBox_134 : decode cX7_inBox 134 = .ok (.goto (-77), 3) := by decide +kernel
theorem dX7_inBox_137 : decode cX7_inBox 137 = .ok (.iload 7, 2) := by decide +kernel
theorem dX7_inBox_139 : decode cX7_inBox 139 = .ok (.ireturn, 1) := by decide +kernel
theorem dX7_between_0 : decode cX7_between 0 = .ok (.lconst 0, 1) := by decide +kernel
theorem dX7_between_1 : decode cX7_between 1 = .ok (.lstore_n 3, 1) := by decide +kernel
theorem dX7_between_2 : decode cX7_between 2 = .ok (.iconst 0, 1) := by decide +kernel
theorem dX7_between_3 : decode cX7_between 3 = .ok (.istore 5, 2) := by decide +kernel
theorem dX7_between_5 : decode cX7_between 5 = .ok (.iload 5, 2) := by decide +kernel
theorem dX7_between_7 : decode cX7_between 7 = .ok (.iconst 4, 1) := by decide +kernel
theorem dX7_between_8 : decode cX7_between 8 = .ok (.if_icmp .ge 43, 3) := by decide +kernel
theorem dX7_between_11 : decode cX7_between 11 = .ok (.aload_n 0, 1) := by decide +kernel
theorem dX7_between_12 : decode cX7_between 12 = .ok (.getfield 17, 3) := by decide +kernel
theorem dX7_between_15 : decode cX7_between 15 = .ok (.iconst 4, 1) := by decide +kernel
theorem dX7_between_16 : decode cX7_between 16 = .ok (.iload_n 1, 1) := by decide +kernel
theorem dX7_between_17 : decode cX7_between 17 = .ok (.imul, 1) := by decide +kernel
theorem dX7_between_18 : decode cX7_between 18 = .ok (.iload 5, 2) := by decide +kernel
theorem dX7_between_20 : decode cX7_between 20 = .ok (.iadd, 1) := by decide +kernel
theorem dX7_between_21 : decode cX7_between 21 = .ok (.iaload, 1) := by decide +kernel
theorem dX7_between_22 : decode cX7_between 22 = .ok (.aload_n 0, 1) := by decide +kernel
theorem dX7_between_23 : decode cX7_between 23 = .ok (.getfield 17, 3) := by decide +kernel
theorem dX7_between_26 : decode cX7_between 26 = .ok (.iconst 4, 1) := by decide +kernel
theorem dX7_between_27 : decode cX7_between 27 = .ok (.iload_n 2, 1) := by decide +kernel
theorem dX7_between_28 : decode cX7_between 28 = .ok (.imul, 1) := by decide +kernel
theorem dX7_between_29 : decode cX7_between 29 = .ok (.iload 5, 2) := by decide +kernel
theorem dX7_between_31 : decode cX7_between 31 = .ok (.iadd, 1) := by decide +kernel
theorem dX7_between_32 : decode cX7_between 32 = .ok (.iaload, 1) := by decide +kernel
theorem dX7_between_33 : decode cX7_between 33 = .ok (.isub, 1) := by decide +kernel
theorem dX7_between_34 : decode cX7_between 34 = .ok (.i2l, 1) := by decide +kernel
theorem dX7_between_35 : decode cX7_between 35 = .ok (.lstore 6, 2) := by decide +kernel
theorem dX7_between_37 : decode cX7_between 37 = .ok (.lload_n 3, 1) := by decide +kernel
theorem dX7_between_38 : decode cX7_between 38 = .ok (.lload 6, 2) := by decide +kernel
theorem dX7_between_40 : decode cX7_between 40 = .ok (.lload 6, 2) := by decide +kernel
theorem dX7_between_42 : decode cX7_between 42 = .ok (.lmul, 1) := by decide +kernel
theorem dX7_between_43 : decode cX7_between 43 = .ok (.ladd, 1) := by decide +kernel
theorem dX7_between_44 : decode cX7_between 44 = .ok (.lstore_n 3, 1) := by decide +kernel
theorem dX7_between_45 : decode cX7_between 45 = .ok (.iinc 5 1, 3) := by decide +kernel
theorem dX7_between_48 : decode cX7_between 48 = .ok (.goto (-43), 3) := by decide +kernel
theorem dX7_between_51 : decode cX7_between 51 = .ok (.lload_n 3, 1) := by decide +kernel
theorem dX7_between_52 : decode cX7_between 52 = .ok (.lreturn, 1) := by decide +kernel
theorem dX7_pair_0 : decode cX7_pair 0 = .ok (.aload_n 0, 1) := by decide +kernel
theorem dX7_pair_1 : decode cX7_pair 1 = .ok (.iload_n 1, 1) := by decide +kernel
theorem dX7_pair_2 : decode cX7_pair 2 = .ok (.i2l, 1) := by decide +kernel
theorem dX7_pair_3 : decode cX7_pair 3 = .ok (.lconst 0, 1) := by decide +kernel
theorem dX7_pair_4 : decode cX7_pair 4 = .ok (.ldc2_w 166, 3) := by decide +kernel
theorem dX7_pair_7 : decode cX7_pair 7 = .ok (.invokestatic 90, 3) := by decide +kernel
theorem dX7_pair_10 : decode cX7_pair 10 = .ok (.ifCond .ne 7, 3) := by decide +kernel
theorem dX7_pair_13 : decode cX7_pair 13 = .ok (.iconst 1, 1) := by decide +kernel
theorem dX7_pair_14 : decode cX7_pair 14 = .ok (.goto 16, 3) := by decide +kernel
theorem dX7_pair_17 : decode cX7_pair 17 = .ok (.aload_n 0, 1) := by decide +kernel
theorem dX7_pair_18 : decode cX7_pair 18 = .ok (.getfield 125, 3) := by decide +kernel
theorem dX7_pair_21 : decode cX7_pair 21 = .ok (.iconst 2, 1) := by decide +kernel
theorem dX7_pair_22 : decode cX7_pair 22 = .ok (.if_icmp .ge 7, 3) := by decide +kernel
theorem dX7_pair_25 : decode cX7_pair 25 = .ok (.iconst 2, 1) := by decide +kernel
theorem dX7_pair_26 : decode cX7_pair 26 = .ok (.goto 4, 3) := by decide +kernel
theorem dX7_pair_29 : decode cX7_pair 29 = .ok (.iconst 0, 1) := by decide +kernel
theorem dX7_pair_30 : decode cX7_pair 30 = .ok (.putfield 1, 3) := by decide +kernel
theorem dX7_pair_33 : decode cX7_pair 33 = .ok (.aload_n 0, 1) := by decide +kernel
theorem dX7_pair_34 : decode cX7_pair 34 = .ok (.getfield 1, 3) := by decide +kernel
theorem dX7_pair_37 : decode cX7_pair 37 = .ok (.ifCond .le 5, 3) := by decide +kernel
theorem dX7_pair_40 : decode cX7_pair 40 = .ok (.lconst 0, 1) := by decide +kernel
theorem dX7_pair_41 : decode cX7_pair 41 = .ok (.lreturn, 1) := by decide +kernel
theorem dX7_pair_42 : decode cX7_pair 42 = .ok (.iconst (-1), 1) := by decide +kernel
theorem dX7_pair_43 : decode cX7_pair 43 = .ok (.istore_n 2, 1) := by decide +kernel
theorem dX7_pair_44 : decode cX7_pair 44 = .ok (.iconst (-1), 1) := by decide +kernel
theorem dX7_pair_45 : decode cX7_pair 45 = .ok (.istore_n 3, 1) := by decide +kernel
theorem dX7_pair_46 : decode cX7_pair 46 = .ok (.iconst 0, 1) := by decide +kernel
theorem dX7_pair_47 : decode cX7_pair 47 = .ok (.istore 4, 2) := by decide +kernel
theorem dX7_pair_49 : decode cX7_pair 49 = .ok (.iload 4, 2) := by decide +kernel
theorem dX7_pair_51 : decode cX7_pair 51 = .ok (.bipush 100, 2) := by decide +kernel
theorem dX7_pair_53 : decode cX7_pair 53 = .ok (.if_icmp .ge 77, 3) := by decide +kernel
theorem dX7_pair_56 : decode cX7_pair 56 = .ok (.iload 4, 2) := by decide +kernel
theorem dX7_pair_58 : decode cX7_pair 58 = .ok (.iconst 1, 1) := by decide +kernel
theorem dX7_pair_59 : decode cX7_pair 59 = .ok (.iadd, 1) := by decide +kernel
theorem dX7_pair_60 : decode cX7_pair 60 = .ok (.istore 5, 2) := by decide +kernel
theorem dX7_pair_62 : decode cX7_pair 62 = .ok (.iload 5, 2) := by decide +kernel
theorem dX7_pair_64 : decode cX7_pair 64 = .ok (.bipush 100, 2) := by decide +kernel
theorem dX7_pair_66 : decode cX7_pair 66 = .ok (.if_icmp .ge 58, 3) := by decide +kernel
theorem dX7_pair_69 : decode cX7_pair 69 = .ok (.aload_n 0, 1) := by decide +kernel
theorem dX7_pair_70 : decode cX7_pair 70 = .ok (.getfield 13, 3) := by decide +kernel
theorem dX7_pair_73 : decode cX7_pair 73 = .ok (.iload 4, 2) := by decide +kernel
theorem dX7_pair_75 : decode cX7_pair 75 = .ok (.baload, 1) := by decide +kernel
theorem dX7_pair_76 : decode cX7_pair 76 = .ok (.ifCond .eq 42, 3) := by decide +kernel
theorem dX7_pair_79 : decode cX7_pair 79 = .ok (.aload_n 0, 1) := by decide +kernel
theorem dX7_pair_80 : decode cX7_pair 80 = .ok (.getfield 13, 3) := by decide +kernel
theorem dX7_pair_83 : decode cX7_pair 83 = .ok (.iload 5, 2) := by decide +kernel
theorem dX7_pair_85 : decode cX7_pair 85 = .ok (.baload, 1) := by decide +kernel
theorem dX7_pair_86 : decode cX7_pair 86 = .ok (.ifCond .eq 32, 3) := by decide +kernel
theorem dX7_pair_89 : decode cX7_pair 89 = .ok (.iload_n 2, 1) := by decide +kernel
theorem dX7_pair_90 : decode cX7_pair 90 = .ok (.iconst (-1), 1) := by decide +kernel
theorem dX7_pair_91 : decode cX7_pair 91 = .ok (.if_icmp .eq 21, 3) := by decide +kernel
theorem dX7_pair_94 : decode cX7_pair 94 = .ok (.aload_n 0, 1) := by decide +kernel
theorem dX7_pair_95 : decode cX7_pair 95 = .ok (.iload 4, 2) := by decide +kernel
theorem dX7_pair_97 : decode cX7_pair 97 = .ok (.iload 5, 2) := by decide +kernel
theorem dX7_pair_99 : decode cX7_pair 99 = .ok (.invokevirtual 168, 3) := by decide +kernel
theorem dX7_pair_102 : decode cX7_pair 102 = .ok (.aload_n 0, 1) := by decide +kernel
theorem dX7_pair_103 : decode cX7_pair 103 = .ok (.iload_n 2, 1) := by decide +kernel
theorem dX7_pair_104 : decode cX7_pair 104 = .ok (.iload_n 3, 1) := by decide +kernel
theorem dX7_pair_105 : decode cX7_pair 105 = .ok (.invokevirtual 168, 3) := by decide +kernel
theorem dX7_pair_108 : decode cX7_pair 108 = .ok (.lcmp, 1) := by decide +kernel
theorem dX7_pair_109 : decode cX7_pair 109 = .ok (.ifCond .ge 9, 3) := by decide +kernel
theorem dX7_pair_112 : decode cX7_pair 112 = .ok (.iload 4, 2) := by decide +kernel
theorem dX7_pair_114 : decode cX7_pair 114 = .ok (.istore_n 2, 1) := by decide +kernel
theorem dX7_pair_115 : decode cX7_pair 115 = .ok (.iload 5, 2) := by decide +kernel
theorem dX7_pair_117 : decode cX7_pair 117 = .ok (.istore_n 3, 1) := by decide +kernel
theorem dX7_pair_118 : decode cX7_pair 118 = .ok (.iinc 5 1, 3) := by decide +kernel
theorem dX7_pair_121 : decode cX7_pair 121 = .ok (.goto (-59), 3) := by decide +kernel
theorem dX7_pair_124 : decode cX7_pair 124 = .ok (.iinc 4 1, 3) := by decide +kernel
theorem dX7_pair_127 : decode cX7_pair 127 = .ok (.goto (-78), 3) := by decide +kernel
theorem dX7_pair_130 : decode cX7_pair 130 = .ok (.iload_n 1, 1) := by decide +kernel
theorem dX7_pair_131 : decode cX7_pair 131 = .ok (.ifCond .ne 8, 3) := by decide +kernel
theorem dX7_pair_134 : decode cX7_pair 134 = .ok (.iload_n 2, 1) := by decide +kernel
theorem dX7_pair_135 : decode cX7_pair 135 = .ok (.i2l, 1) := by decide +kernel
theorem dX7_pair_136 : decode cX7_pair 136 = .ok (.goto 19, 3) := by decide +kernel
theorem dX7_pair_139 : decode cX7_pair 139 = .ok (.iload_n 1, 1) := by decide +kernel
theorem dX7_pair_140 : decode cX7_pair 140 = .ok (.iconst 1, 1) := by decide +kernel
theorem dX7_pair_141 : decode cX7_pair 141 = .ok (.if_icmp .ne 8, 3) := by decide +kernel
theorem dX7_pair_144 : decode cX7_pair 144 = .ok (.iload_n 3, 1) := by decide +kernel
theorem dX7_pair_145 : decode cX7_pair 145 = .ok (.i2l, 1) := by decide +kernel
theorem dX7_pair_146 : decode cX7_pair 146 = .ok (.goto 9, 3) := by decide +kernel
theorem dX7_pair_149 : decode cX7_pair 149 = .ok (.aload_n 0, 1) := by decide +kernel
theorem dX7_pair_150 : decode cX7_pair 150 = .ok (.iload_n 2, 1) := by decide +kernel
theorem dX7_pair_151 : decode cX7_pair 151 = .ok (.iload_n 3, 1) := by decide +kernel
theorem dX7_pair_152 : decode cX7_pair 152 = .ok (.invokevirtual 168, 3) := by decide +kernel
theorem dX7_pair_155 : decode cX7_pair 155 = .ok (.lreturn, 1) := by decide +kernel
theorem dX7_parts_0 : decode cX7_parts 0 = .ok (.aload_n 0, 1) := by decide +kernel
theorem dX7_parts_1 : decode cX7_parts 1 = .ok (.lload_n 1, 1) := by decide +kernel
theorem dX7_parts_2 : decode cX7_parts 2 = .ok (.lconst 0, 1) := by decide +kernel
theorem dX7_parts_3 : decode cX7_parts 3 = .ok (.lcmp, 1) := by decide +kernel
theorem dX7_parts_4 : decode cX7_parts 4 = .ok (.ifCond .ge 7, 3) := by decide +kernel
theorem dX7_parts_7 : decode cX7_parts 7 = .ok (.iconst 1, 1) := by decide +kernel
theorem dX7_parts_8 : decode cX7_parts 8 = .ok (.goto 4, 3) := by decide +kernel
theorem dX7_parts_11 : decode cX7_parts 11 = .ok (.iconst 0, 1) := by decide +kernel
theorem dX7_parts_12 : decode cX7_parts 12 = .ok (.putfield 1, 3) := by decide +kernel
theorem dX7_parts_15 : decode cX7_parts 15 = .ok (.aload_n 0, 1) := by decide +kernel
theorem dX7_parts_16 : decode cX7_parts 16 = .ok (.getfield 1, 3) := by decide +kernel
theorem dX7_parts_19 : decode cX7_parts 19 = .ok (.ifCond .le 5, 3) := by decide +kernel
theorem dX7_parts_22 : decode cX7_parts 22 = .ok (.iconst 0, 1) := by decide +kernel
theorem dX7_parts_23 : decode cX7_parts 23 = .ok (.ireturn, 1) := by decide +kernel
theorem dX7_parts_24 : decode cX7_parts 24 = .ok (.iconst 0, 1) := by decide +kernel
theorem dX7_parts_25 : decode cX7_parts 25 = .ok (.istore_n 3, 1) := by decide +kernel
theorem dX7_parts_26 : decode cX7_parts 26 = .ok (.iload_n 3, 1) := by decide +kernel
theorem dX7_parts_27 : decode cX7_parts 27 = .ok (.bipush 100, 2) := by decide +kernel
theorem dX7_parts_29 : decode cX7_parts 29 = .ok (.if_icmp .ge 29, 3) := by decide +kernel
theorem dX7_parts_32 : decode cX7_parts 32 = .ok (.aload_n 0, 1) := by decide +kernel
theorem dX7_parts_33 : decode cX7_parts 33 = .ok (.getfield 82, 3) := by decide +kernel
theorem dX7_parts_36 : decode cX7_parts 36 = .ok (.iload_n 3, 1) := by decide +kernel
theorem dX7_parts_37 : decode cX7_parts 37 = .ok (.aload_n 0, 1) := by decide +kernel
theorem dX7_parts_38 : decode cX7_parts 38 = .ok (.getfield 13, 3) := by decide +kernel
theorem dX7_parts_41 : decode cX7_parts 41 = .ok (.iload_n 3, 1) := by decide +kernel
theorem dX7_parts_42 : decode cX7_parts 42 = .ok (.baload, 1) := by decide +kernel
theorem dX7_parts_43 : decode cX7_parts 43 = .ok (.ifCond .ne 7, 3) := by decide +kernel
theorem dX7_parts_46 : decode cX7_parts 46 = .ok (.iconst 1, 1) := by decide +kernel
theorem dX7_parts_47 : decode cX7_parts 47 = .ok (.goto 4, 3) := by decide +kernel
theorem dX7_parts_50 : decode cX7_parts 50 = .ok (.iconst 0, 1) := by decide +kernel
theorem dX7_parts_51 : decode cX7_parts 51 = .ok (.bastore, 1) := by decide +kernel
theorem dX7_parts_52 : decode cX7_parts 52 = .ok (.iinc 3 1, 3) := by decide +kernel
theorem dX7_parts_55 : decode cX7_parts 55 = .ok (.goto (-29), 3) := by decide +kernel
theorem dX7_parts_58 : decode cX7_parts 58 = .ok (.iconst 0, 1) := by decide +kernel
theorem dX7_parts_59 : decode cX7_parts 59 = .ok (.istore_n 3, 1) := by decide +kernel
theorem dX7_parts_60 : decode cX7_parts 60 = .ok (.iconst 0, 1) := by decide +kernel
theorem dX7_parts_61 : decode cX7_parts 61 = .ok (.istore 4, 2) := by decide +kernel
theorem dX7_parts_63 : decode cX7_parts 63 = .ok (.iload 4, 2) := by decide +kernel
theorem dX7_parts_65 : decode cX7_parts 65 = .ok (.bipush 100, 2) := by decide +kernel
theorem dX7_parts_67 : decode cX7_parts 67 = .ok (.if_icmp .ge 121, 3) := by decide +kernel
theorem dX7_parts_70 : decode cX7_parts 70 = .ok (.aload_n 0, 1) := by decide +kernel
theorem dX7_parts_71 : decode cX7_parts 71 = .ok (.getfield 82, 3) := by decide +kernel
theorem dX7_parts_74 : decode cX7_parts 74 = .ok (.iload 4, 2) := by decide +kernel
theorem dX7_parts_76 : decode cX7_parts 76 = .ok (.baload, 1) := by decide +kernel
theorem dX7_parts_77 : decode cX7_parts 77 = .ok (.ifCond .ne 105, 3) := by decide +kernel
theorem dX7_parts_80 : decode cX7_parts 80 = .ok (.iinc 3 1, 3) := by decide +kernel
theorem dX7_parts_83 : decode cX7_parts 83 = .ok (.iconst 1, 1) := by decide +kernel
theorem dX7_parts_84 : decode cX7_parts 84 = .ok (.istore 5, 2) := by decide +kernel
theorem dX7_parts_86 : decode cX7_parts 86 = .ok (.aload_n 0, 1) := by decide +kernel
theorem dX7_parts_87 : decode cX7_parts 87 = .ok (.getfield 54, 3) := by decide +kernel
theorem dX7_parts_90 : decode cX7_parts 90 = .ok (.iconst 0, 1) := by decide +kernel
theorem dX7_parts_91 : decode cX7_parts 91 = .ok (.iload 4, 2) := by decide +kernel
theorem dX7_parts_93 : decode cX7_parts 93 = .ok (.iastore, 1) := by decide +kernel
theorem dX7_parts_94 : decode cX7_parts 94 = .ok (.aload_n 0, 1) := by decide +kernel
theorem dX7_parts_95 : decode cX7_parts 95 = .ok (.getfield 82, 3) := by decide +kernel
theorem dX7_parts_98 : decode cX7_parts 98 = .ok (.iload 4, 2) := by decide +kernel
theorem dX7_parts_100 : decode cX7_parts 100 = .ok (.iconst 1, 1) := by decide +kernel
theorem dX7_parts_101 : decode cX7_parts 101 = .ok (.bastore, 1) := by decide +kernel
theorem dX7_parts_102 : decode cX7_parts 102 = .ok (.iconst 0, 1) := by decide +kernel
theorem dX7_parts_103 : decode cX7_parts 103 = .ok (.istore 6, 2) := by decide +kernel
theorem dX7_parts_105 : decode cX7_parts 105 = .ok (.iload 6, 2) := by decide +kernel
theorem dX7_parts_107 : decode cX7_parts 107 = .ok (.iload 5, 2) := by decide +kernel
theorem dX7_parts_109 : decode cX7_parts 109 = .ok (.if_icmp .ge 73, 3) := by decide +kernel
theorem dX7_parts_112 : decode cX7_parts 112 = .ok (.iconst 0, 1) := by decide +kernel
theorem dX7_parts_113 : decode cX7_parts 113 = .ok (.istore 7, 2) := by decide +kernel
theorem dX7_parts_115 : decode cX7_parts 115 = .ok (.iload 7, 2) := by decide +kernel
theorem dX7_parts_117 : decode cX7_parts 117 = .ok (.bipush 100, 2) := by decide +kernel
theorem dX7_parts_119 : decode cX7_parts 119 = .ok (.if_icmp .ge 57, 3) := by decide +kernel
theorem dX7_parts_122 : decode cX7_parts 122 = .ok (.aload_n 0, 1) := by decide +kernel
theorem dX7_parts_123 : decode cX7_parts 123 = .ok (.getfield 82, 3) := by decide +kernel
theorem dX7_parts_126 : decode cX7_parts 126 = .ok (.iload 7, 2) := by decide +kernel
theorem dX7_parts_128 : decode cX7_parts 128 = .ok (.baload, 1) := by decide +kernel
theorem dX7_parts_129 : decode cX7_parts 129 = .ok (.ifCond .ne 41, 3) := by decide +kernel
theorem dX7_parts_132 : decode cX7_parts 132 = .ok (.aload_n 0, 1) := by decide +kernel
theorem dX7_parts_133 : decode cX7_parts 133 = .ok (.aload_n 0, 1) := by decide +kernel
theorem dX7_parts_134 : decode cX7_parts 134 = .ok (.getfield 54, 3) := by decide +kernel
theorem dX7_parts_137 : decode cX7_parts 137 = .ok (.iload 6, 2) := by decide +kernel
theorem dX7_parts_139 : decode cX7_parts 139 = .ok (.iaload, 1) := by decide +kernel
theorem dX7_parts_140 : decode cX7_parts 140 = .ok (.iload 7, 2) := by decide +kernel
theorem dX7_parts_142 : decode cX7_parts 142 = .ok (.invokevirtual 168, 3) := by decide +kernel
theorem dX7_parts_145 : decode cX7_parts 145 = .ok (.lload_n 1, 1) := by decide +kernel
theorem dX7_parts_146 : decode cX7_parts 146 = .ok (.lcmp, 1) := by decide +kernel
theorem dX7_parts_147 : decode cX7_parts 147 = .ok (.ifCond .gt 23, 3) := by decide +kernel
theorem dX7_parts_150 : decode cX7_parts 150 = .ok (.aload_n 0, 1) := by decide +kernel
theorem dX7_parts_151 : decode cX7_parts 151 = .ok (.getfield 82, 3) := by decide +kernel
theorem dX7_parts_154 : decode cX7_parts 154 = .ok (.iload 7, 2) := by decide +kernel
theorem dX7_parts_156 : decode cX7_parts 156 = .ok (.iconst 1, 1) := by decide +kernel
theorem dX7_parts_157 : decode cX7_parts 157 = .ok (.bastore, 1) := by decide +kernel
theorem dX7_parts_158 : decode cX7_parts 158 = .ok (.aload_n 0, 1) := by decide +kernel
theorem dX7_parts_159 : decode cX7_parts 159 = .ok (.getfield 54, 3) := by decide +kernel
theorem dX7_parts_162 : decode cX7_parts 162 = .ok (.iload 5, 2) := by decide +kernel
theorem dX7_parts_164 : decode cX7_parts 164 = .ok (.iload 7, 2) := by decide +kernel
theorem dX7_parts_166 : decode cX7_parts 166 = .ok (.iastore, 1) := by decide +kernel
theorem dX7_parts_167 : decode cX7_parts 167 = .ok (.iinc 5 1, 3) := by decide +kernel
theorem dX7_parts_170 : decode cX7_parts 170 = .ok (.iinc 7 1, 3) := by decide +kernel
theorem dX7_parts_173 : decode cX7_parts 173 = .ok (.goto (-58), 3) := by decide +kernel
theorem dX7_parts_176 : decode cX7_parts 176 = .ok (.iinc 6 1, 3) := by decide +kernel
theorem dX7_parts_179 : decode cX7_parts 179 = .ok (.goto (-74), 3) := by decide +kernel
theorem dX7_parts_182 : decode cX7_parts 182 = .ok (.iinc 4 1, 3) := by decide +kernel
theorem dX7_parts_185 : decode cX7_parts 185 = .ok (.goto (-122), 3) := by decide +kernel
theorem dX7_parts_188 : decode cX7_parts 188 = .ok (.iload_n 3, 1) := by decide +kernel
theorem dX7_parts_189 : decode cX7_parts 189 = .ok (.ireturn, 1) := by decide +kernel
theorem dX7_span_0 : decode cX7_span 0 = .ok (.aload_n 0, 1) := by decide +kernel
theorem dX7_span_1 : decode cX7_span 1 = .ok (.iconst 0, 1) := by decide +kernel
theorem dX7_span_2 : decode cX7_span 2 = .ok (.putfield 1, 3) := by decide +kernel
theorem dX7_span_5 : decode cX7_span 5 = .ok (.lconst 0, 1) := by decide +kernel
theorem dX7_span_6 : decode cX7_span 6 = .ok (.lstore_n 1, 1) := by decide +kernel
theorem dX7_span_7 : decode cX7_span 7 = .ok (.iconst 0, 1) := by decide +kernel
theorem dX7_span_8 : decode cX7_span 8 = .ok (.istore_n 3, 1) := by decide +kernel
theorem dX7_span_9 : decode cX7_span 9 = .ok (.iconst 0, 1) := by decide +kernel
theorem dX7_span_10 : decode cX7_span 10 = .ok (.istore 4, 2) := by decide +kernel
theorem dX7_span_12 : decode cX7_span 12 = .ok (.iload 4, 2) := by decide +kernel
theorem dX7_span_14 : decode cX7_span 14 = .ok (.bipush 100, 2) := by decide +kernel
theorem dX7_span_16 : decode cX7_span 16 = .ok (.if_icmp .ge 63, 3) := by decide +kernel
theorem dX7_span_19 : decode cX7_span 19 = .ok (.aload_n 0, 1) := by decide +kernel
theorem dX7_span_20 : decode cX7_span 20 = .ok (.getfield 82, 3) := by decide +kernel
theorem dX7_span_23 : decode cX7_span 23 = .ok (.iload 4, 2) := by decide +kernel
theorem dX7_span_25 : decode cX7_span 25 = .ok (.aload_n 0, 1) := by decide +kernel
theorem dX7_span_26 : decode cX7_span 26 = .ok (.getfield 13, 3) := by decide +kernel
theorem dX7_span_29 : decode cX7_span 29 = .ok (.iload 4, 2) := by decide +kernel
theorem dX7_span_31 : decode cX7_span 31 = .ok (.baload, 1) := by decide +kernel
theorem dX7_span_32 : decode cX7_span 32 = .ok (.ifCond .ne 7, 3) := by decide +kernel
theorem dX7_span_35 : decode cX7_span 35 = .ok (.iconst 1, 1) := by decide +kernel
theorem dX7_span_36 : decode cX7_span 36 = .ok (.goto 4, 3) := by decide +kernel
theorem dX7_span_39 : decode cX7_span 39 = .ok (.iconst 0, 1) := by decide +kernel
theorem dX7_span_40 : decode cX7_span 40 = .ok (.bastore, 1) := by decide +kernel
theorem dX7_span_41 : decode cX7_span 41 = .ok (.aload_n 0, 1) := by decide +kernel
theorem dX7_span_42 : decode cX7_span 42 = .ok (.getfield 13, 3) := by decide +kernel
theorem dX7_span_45 : decode cX7_span 45 = .ok (.iload 4, 2) := by decide +kernel
theorem dX7_span_47 : decode cX7_span 47 = .ok (.baload, 1) := by decide +kernel
theorem dX7_span_48 : decode cX7_span 48 = .ok (.ifCond .eq 25, 3) := by decide +kernel
theorem dX7_span_51 : decode cX7_span 51 = .ok (.iload_n 3, 1) := by decide +kernel
theorem dX7_span_52 : decode cX7_span 52 = .ok (.ifCond .ne 21, 3) := by decide +kernel
theorem dX7_span_55 : decode cX7_span 55 = .ok (.aload_n 0, 1) := by decide +kernel
theorem dX7_span_56 : decode cX7_span 56 = .ok (.getfield 54, 3) := by decide +kernel
theorem dX7_span_59 : decode cX7_span 59 = .ok (.iconst 0, 1) := by decide +kernel
theorem dX7_span_60 : decode cX7_span 60 = .ok (.iload 4, 2) := by decide +kernel
theorem dX7_span_62 : decode cX7_span 62 = .ok (.iastore, 1) := by decide +kernel
theorem dX7_span_63 : decode cX7_span 63 = .ok (.aload_n 0, 1) := by decide +kernel
theorem dX7_span_64 : decode cX7_span 64 = .ok (.getfield 82, 3) := by decide +kernel
theorem dX7_span_67 : decode cX7_span 67 = .ok (.iload 4, 2) := by decide +kernel
theorem dX7_span_69 : decode cX7_span 69 = .ok (.iconst 1, 1) := by decide +kernel
theorem dX7_span_70 : decode cX7_span 70 = .ok (.bastore, 1) := by decide +kernel
theorem dX7_span_71 : decode cX7_span 71 = .ok (.iconst 1, 1) := by decide +kernel
theorem dX7_span_72 : decode cX7_span 72 = .ok (.istore_n 3, 1) := by decide +kernel
theorem dX7_span_73 : decode cX7_span 73 = .ok (.iinc 4 1, 3) := by decide +kernel
theorem dX7_span_76 : decode cX7_span 76 = .ok (.goto (-64), 3) := by decide +kernel
theorem dX7_span_79 : decode cX7_span 79 = .ok (.iload_n 3, 1) := by decide +kernel
theorem dX7_span_80 : decode cX7_span 80 = .ok (.ifCond .le 129, 3) := by decide +kernel
theorem dX7_span_83 : decode cX7_span 83 = .ok (.iload_n 3, 1) := by decide +kernel
theorem dX7_span_84 : decode cX7_span 84 = .ok (.aload_n 0, 1) := by decide +kernel
theorem dX7_span_85 : decode cX7_span 85 = .ok (.getfield 125, 3) := by decide +kernel
theorem dX7_span_88 : decode cX7_span 88 = .ok (.if_icmp .ge 121, 3) := by decide +kernel
theorem dX7_span_91 : decode cX7_span 91 = .ok (.iconst (-1), 1) := by decide +kernel
theorem dX7_span_92 : decode cX7_span 92 = .ok (.istore 4, 2) := by decide +kernel
theorem dX7_span_94 : decode cX7_span 94 = .ok (.lconst 0, 1) := by decide +kernel
theorem dX7_span_95 : decode cX7_span 95 = .ok (.lstore 5, 2) := by decide +kernel
theorem dX7_span_97 : decode cX7_span 97 = .ok (.iconst 0, 1) := by decide +kernel
theorem dX7_span_98 : decode cX7_span 98 = .ok (.istore 7, 2) := by decide +kernel
theorem dX7_span_100 : decode cX7_span 100 = .ok (.iload 7, 2) := by decide +kernel
theorem dX7_span_102 : decode cX7_span 102 = .ok (.bipush 100, 2) := by decide +kernel
theorem dX7_span_104 : decode cX7_span 104 = .ok (.if_icmp .ge 78, 3) := by decide +kernel
theorem dX7_span_107 : decode cX7_span 107 = .ok (.iconst 0, 1) := by decide +kernel
theorem dX7_span_108 : decode cX7_span 108 = .ok (.istore 8, 2) := by decide +kernel
theorem dX7_span_110 : decode cX7_span 110 = .ok (.iload 8, 2) := by decide +kernel
theorem dX7_span_112 : decode cX7_span 112 = .ok (.iload_n 3, 1) := by decide +kernel
theorem dX7_span_113 : decode cX7_span 113 = .ok (.if_icmp .ge 63, 3) := by decide +kernel
theorem dX7_span_116 : decode cX7_span 116 = .ok (.aload_n 0, 1) := by decide +kernel
theorem dX7_span_117 : decode cX7_span 117 = .ok (.getfield 82, 3) := by decide +kernel
theorem dX7_span_120 : decode cX7_span 120 = .ok (.iload 7, 2) := by decide +kernel
theorem dX7_span_122 : decode cX7_span 122 = .ok (.baload, 1) := by decide +kernel
theorem dX7_span_123 : decode cX7_span 123 = .ok (.ifCond .ne 53, 3) := by decide +kernel
theorem dX7_span_126 : decode cX7_span 126 = .ok (.iload 4, 2) := by decide +kernel
theorem dX7_span_128 : decode cX7_span 128 = .ok (.iconst (-1), 1) := by decide +kernel
theorem dX7_span_129 : decode cX7_span 129 = .ok (.if_icmp .eq 22, 3) := by decide +kernel
theorem dX7_span_132 : decode cX7_span 132 = .ok (.aload_n 0, 1) := by decide +kernel
theorem dX7_span_133 : decode cX7_span 133 = .ok (.aload_n 0, 1) := by decide +kernel
theorem dX7_span_134 : decode cX7_span 134 = .ok (.getfield 54, 3) := by decide +kernel
theorem dX7_span_137 : decode cX7_span 137 = .ok (.iload 8, 2) := by decide +kernel
theorem dX7_span_139 : decode cX7_span 139 = .ok (.iaload, 1) := by decide +kernel
theorem dX7_span_140 : decode cX7_span 140 = .ok (.iload 7, 2) := by decide +kernel
theorem dX7_span_142 : decode cX7_span 142 = .ok (.invokevirtual 168, 3) := by decide +kernel
theorem dX7_span_145 : decode cX7_span 145 = .ok (.lload 5, 2) := by decide +kernel
theorem dX7_span_147 : decode cX7_span 147 = .ok (.lcmp, 1) := by decide +kernel
theorem dX7_span_148 : decode cX7_span 148 = .ok (.ifCond .ge 22, 3) := by decide +kernel
theorem dX7_span_151 : decode cX7_span 151 = .ok (.iload 7, 2) := by decide +kernel
theorem dX7_span_153 : decode cX7_span 153 = .ok (.istore 4, 2) := by decide +kernel
theorem dX7_span_155 : decode cX7_span 155 = .ok (.aload_n 0, 1) := by decide +kernel
theorem dX7_span_156 : decode cX7_span 156 = .ok (.aload_n 0, 1) := by decide +kernel
theorem dX7_span_157 : decode cX7_span 157 = .ok (.getfield 54, 3) := by decide +kernel
theorem dX7_span_160 : decode cX7_span 160 = .ok (.iload 8, 2) := by decide +kernel
theorem dX7_span_162 : decode cX7_span 162 = .ok (.iaload, 1) := by decide +kernel
theorem dX7_span_163 : decode cX7_span 163 = .ok (.iload 7, 2) := by decide +kernel
theorem dX7_span_165 : decode cX7_span 165 = .ok (.invokevirtual 168, 3) := by decide +kernel
theorem dX7_span_168 : decode cX7_span 168 = .ok (.lstore 5, 2) := by decide +kernel
theorem dX7_span_170 : decode cX7_span 170 = .ok (.iinc 8 1, 3) := by decide +kernel
theorem dX7_span_173 : decode cX7_span 173 = .ok (.goto (-63), 3) := by decide +kernel
theorem dX7_span_176 : decode cX7_span 176 = .ok (.iinc 7 1, 3) := by decide +kernel
theorem dX7_span_179 : decode cX7_span 179 = .ok (.goto (-79), 3) := by decide +kernel
theorem dX7_span_182 : decode cX7_span 182 = .ok (.aload_n 0, 1) := by decide +kernel
theorem dX7_span_183 : decode cX7_span 183 = .ok (.getfield 82, 3) := by decide +kernel
theorem dX7_span_186 : decode cX7_span 186 = .ok (.iload 4, 2) := by decide +kernel
theorem dX7_span_188 : decode cX7_span 188 = .ok (.iconst 1, 1) := by decide +kernel
theorem dX7_span_189 : decode cX7_span 189 = .ok (.bastore, 1) := by decide +kernel
theorem dX7_span_190 : decode cX7_span 190 = .ok (.aload_n 0, 1) := by decide +kernel
theorem dX7_span_191 : decode cX7_span 191 = .ok (.getfield 54, 3) := by decide +kernel
theorem dX7_span_194 : decode cX7_span 194 = .ok (.iload_n 3, 1) := by decide +kernel
theorem dX7_span_195 : decode cX7_span 195 = .ok (.iload 4, 2) := by decide +kernel
theorem dX7_span_197 : decode cX7_span 197 = .ok (.iastore, 1) := by decide +kernel
theorem dX7_span_198 : decode cX7_span 198 = .ok (.iinc 3 1, 3) := by decide +kernel
theorem dX7_span_201 : decode cX7_span 201 = .ok (.lload_n 1, 1) := by decide +kernel
theorem dX7_span_202 : decode cX7_span 202 = .ok (.lload 5, 2) := by decide +kernel
theorem dX7_span_204 : decode cX7_span 204 = .ok (.ladd, 1) := by decide +kernel
theorem dX7_span_205 : decode cX7_span 205 = .ok (.lstore_n 1, 1) := by decide +kernel
theorem dX7_span_206 : decode cX7_span 206 = .ok (.goto (-127), 3) := by decide +kernel
theorem dX7_span_209 : decode cX7_span 209 = .ok (.lload_n 1, 1) := by decide +kernel
theorem dX7_span_210 : decode cX7_span 210 = .ok (.lreturn, 1) := by decide +kernel
theorem dX7_node_0 : decode cX7_node 0 = .ok (.aload_n 0, 1) := by decide +kernel
theorem dX7_node_1 : decode cX7_node 1 = .ok (.iload_n 1, 1) := by decide +kernel
theorem dX7_node_2 : decode cX7_node 2 = .ok (.invokestatic 117, 3) := by decide +kernel
theorem dX7_node_5 : decode cX7_node 5 = .ok (.ifCond .eq 15, 3) := by decide +kernel
theorem dX7_node_8 : decode cX7_node 8 = .ok (.iload_n 2, 1) := by decide +kernel
theorem dX7_node_9 : decode cX7_node 9 = .ok (.i2l, 1) := by decide +kernel
theorem dX7_node_10 : decode cX7_node 10 = .ok (.lconst 0, 1) := by decide +kernel
theorem dX7_node_11 : decode cX7_node 11 = .ok (.ldc2_w 172, 3) := by decide +kernel
theorem dX7_node_14 : decode cX7_node 14 = .ok (.invokestatic 90, 3) := by decide +kernel
theorem dX7_node_17 : decode cX7_node 17 = .ok (.ifCond .ne 7, 3) := by decide +kernel
theorem dX7_node_20 : decode cX7_node 20 = .ok (.iconst 1, 1) := by decide +kernel
theorem dX7_node_21 : decode cX7_node 21 = .ok (.goto 17, 3) := by decide +kernel
theorem dX7_node_24 : decode cX7_node 24 = .ok (.aload_n 0, 1) := by decide +kernel
theorem dX7_node_25 : decode cX7_node 25 = .ok (.getfield 13, 3) := by decide +kernel
theorem dX7_node_28 : decode cX7_node 28 = .ok (.iload_n 1, 1) := by decide +kernel
theorem dX7_node_29 : decode cX7_node 29 = .ok (.baload, 1) := by decide +kernel
theorem dX7_node_30 : decode cX7_node 30 = .ok (.ifCond .ne 7, 3) := by decide +kernel
theorem dX7_node_33 : decode cX7_node 33 = .ok (.iconst 2, 1) := by decide +kernel
theorem dX7_node_34 : decode cX7_node 34 = .ok (.goto 4, 3) := by decide +kernel
theorem dX7_node_37 : decode cX7_node 37 = .ok (.iconst 0, 1) := by decide +kernel
theorem dX7_node_38 : decode cX7_node 38 = .ok (.putfield 1, 3) := by decide +kernel
theorem dX7_node_41 : decode cX7_node 41 = .ok (.aload_n 0, 1) := by decide +kernel
theorem dX7_node_42 : decode cX7_node 42 = .ok (.getfield 1, 3) := by decide +kernel
theorem dX7_node_45 : decode cX7_node 45 = .ok (.ifCond .le 5, 3) := by decide +kernel
theorem dX7_node_48 : decode cX7_node 48 = .ok (.iconst 0, 1) := by decide +kernel
theorem dX7_node_49 : decode cX7_node 49 = .ok (.ireturn, 1) := by decide +kernel
theorem dX7_node_50 : decode cX7_node 50 = .ok (.aload_n 0, 1) := by decide +kernel
theorem dX7_node_51 : decode cX7_node 51 = .ok (.getfield 21, 3) := by decide +kernel
theorem dX7_node_54 : decode cX7_node 54 = .ok (.iload_n 1, 1) := by decide +kernel
theorem dX7_node_55 : decode cX7_node 55 = .ok (.iaload, 1) := by decide +kernel
theorem dX7_node_56 : decode cX7_node 56 = .ok (.istore_n 3, 1) := by decide +kernel
theorem dX7_node_57 : decode cX7_node 57 = .ok (.aload_n 0, 1) := by decide +kernel
theorem dX7_node_58 : decode cX7_node 58 = .ok (.getfield 42, 3) := by decide +kernel
theorem dX7_node_61 : decode cX7_node 61 = .ok (.iload_n 3, 1) := by decide +kernel
theorem dX7_node_62 : decode cX7_node 62 = .ok (.iaload, 1) := by decide +kernel
theorem dX7_node_63 : decode cX7_node 63 = .ok (.istore 4, 2) := by decide +kernel
theorem dX7_node_65 : decode cX7_node 65 = .ok (.iload_n 2, 1) := by decide +kernel
theorem dX7_node_66 : decode cX7_node 66 = .ok (.ifCond .ne 9, 3) := by decide +kernel
theorem dX7_node_69 : decode cX7_node 69 = .ok (.aload_n 0, 1) := by decide +kernel
theorem dX7_node_70 : decode cX7_node 70 = .ok (.iload_n 3, 1) := by decide +kernel
theorem dX7_node_71 : decode cX7_node 71 = .ok (.invokevirtual 106, 3) := by decide +kernel
theorem dX7_node_74 : decode cX7_node 74 = .ok (.ireturn, 1) := by decide +kernel
theorem dX7_node_75 : decode cX7_node 75 = .ok (.iload_n 2, 1) := by decide +kernel
theorem dX7_node_76 : decode cX7_node 76 = .ok (.iconst 1, 1) := by decide +kernel
theorem dX7_node_77 : decode cX7_node 77 = .ok (.if_icmp .ne 9, 3) := by decide +kernel
theorem dX7_node_80 : decode cX7_node 80 = .ok (.aload_n 0, 1) := by decide +kernel
theorem dX7_node_81 : decode cX7_node 81 = .ok (.iload_n 3, 1) := by decide +kernel
theorem dX7_node_82 : decode cX7_node 82 = .ok (.invokevirtual 98, 3) := by decide +kernel
theorem dX7_node_85 : decode cX7_node 85 = .ok (.ireturn, 1) := by decide +kernel
theorem dX7_node_86 : decode cX7_node 86 = .ok (.iload 4, 2) := by decide +kernel
theorem dX7_node_88 : decode cX7_node 88 = .ok (.iconst (-1), 1) := by decide +kernel
theorem dX7_node_89 : decode cX7_node 89 = .ok (.if_icmp .ne 16, 3) := by decide +kernel
theorem dX7_node_92 : decode cX7_node 92 = .ok (.iload_n 2, 1) := by decide +kernel
theorem dX7_node_93 : decode cX7_node 93 = .ok (.iconst 2, 1) := by decide +kernel
theorem dX7_node_94 : decode cX7_node 94 = .ok (.if_icmp .ne 7, 3) := by decide +kernel
theorem dX7_node_97 : decode cX7_node 97 = .ok (.iconst (-1), 1) := by decide +kernel
theorem dX7_node_98 : decode cX7_node 98 = .ok (.goto 61, 3) := by decide +kernel
theorem dX7_node_101 : decode cX7_node 101 = .ok (.iconst 0, 1) := by decide +kernel
theorem dX7_node_102 : decode cX7_node 102 = .ok (.goto 57, 3) := by decide +kernel
theorem dX7_node_105 : decode cX7_node 105 = .ok (.iload_n 2, 1) := by decide +kernel
theorem dX7_node_106 : decode cX7_node 106 = .ok (.iconst 2, 1) := by decide +kernel
theorem dX7_node_107 : decode cX7_node 107 = .ok (.if_icmp .ne 13, 3) := by decide +kernel
theorem dX7_node_110 : decode cX7_node 110 = .ok (.aload_n 0, 1) := by decide +kernel
theorem dX7_node_111 : decode cX7_node 111 = .ok (.getfield 27, 3) := by decide +kernel
theorem dX7_node_114 : decode cX7_node 114 = .ok (.iload 4, 2) := by decide +kernel
theorem dX7_node_116 : decode cX7_node 116 = .ok (.iaload, 1) := by decide +kernel
theorem dX7_node_117 : decode cX7_node 117 = .ok (.goto 42, 3) := by decide +kernel
theorem dX7_node_120 : decode cX7_node 120 = .ok (.iload_n 2, 1) := by decide +kernel
theorem dX7_node_121 : decode cX7_node 121 = .ok (.iconst 3, 1) := by decide +kernel
theorem dX7_node_122 : decode cX7_node 122 = .ok (.if_icmp .ne 21, 3) := by decide +kernel
theorem dX7_node_125 : decode cX7_node 125 = .ok (.aload_n 0, 1) := by decide +kernel
theorem dX7_node_126 : decode cX7_node 126 = .ok (.getfield 33, 3) := by decide +kernel
theorem dX7_node_129 : decode cX7_node 129 = .ok (.iload 4, 2) := by decide +kernel
theorem dX7_node_131 : decode cX7_node 131 = .ok (.baload, 1) := by decide +kernel
theorem dX7_node_132 : decode cX7_node 132 = .ok (.ifCond .eq 7, 3) := by decide +kernel
theorem dX7_node_135 : decode cX7_node 135 = .ok (.iconst 0, 1) := by decide +kernel
theorem dX7_node_136 : decode cX7_node 136 = .ok (.goto 23, 3) := by decide +kernel
theorem dX7_node_139 : decode cX7_node 139 = .ok (.iconst 1, 1) := by decide +kernel
theorem dX7_node_140 : decode cX7_node 140 = .ok (.goto 19, 3) := by decide +kernel
theorem dX7_node_143 : decode cX7_node 143 = .ok (.aload_n 0, 1) := by decide +kernel
theorem dX7_node_144 : decode cX7_node 144 = .ok (.getfield 36, 3) := by decide +kernel
theorem dX7_node_147 : decode cX7_node 147 = .ok (.iload 4, 2) := by decide +kernel
theorem dX7_node_149 : decode cX7_node 149 = .ok (.iaload, 1) := by decide +kernel
theorem dX7_node_150 : decode cX7_node 150 = .ok (.iload_n 3, 1) := by decide +kernel
theorem dX7_node_151 : decode cX7_node 151 = .ok (.if_icmp .ne 7, 3) := by decide +kernel
theorem dX7_node_154 : decode cX7_node 154 = .ok (.iconst 1, 1) := by decide +kernel
theorem dX7_node_155 : decode cX7_node 155 = .ok (.goto 4, 3) := by decide +kernel
theorem dX7_node_158 : decode cX7_node 158 = .ok (.iconst 0, 1) := by decide +kernel
theorem dX7_node_159 : decode cX7_node 159 = .ok (.ireturn, 1) := by decide +kernel
theorem dX7_walk_0 : decode cX7_walk 0 = .ok (.aload_n 0, 1) := by decide +kernel
theorem dX7_walk_1 : decode cX7_walk 1 = .ok (.aload_n 0, 1) := by decide +kernel
theorem dX7_walk_2 : decode cX7_walk 2 = .ok (.getfield 45, 3) := by decide +kernel
theorem dX7_walk_5 : decode cX7_walk 5 = .ok (.invokevirtual 98, 3) := by decide +kernel
theorem dX7_walk_8 : decode cX7_walk 8 = .ok (.istore_n 2, 1) := by decide +kernel
theorem dX7_walk_9 : decode cX7_walk 9 = .ok (.aload_n 0, 1) := by decide +kernel
theorem dX7_walk_10 : decode cX7_walk 10 = .ok (.iload_n 1, 1) := by decide +kernel
theorem dX7_walk_11 : decode cX7_walk 11 = .ok (.i2l, 1) := by decide +kernel
theorem dX7_walk_12 : decode cX7_walk 12 = .ok (.lconst 0, 1) := by decide +kernel
theorem dX7_walk_13 : decode cX7_walk 13 = .ok (.iload_n 2, 1) := by decide +kernel
theorem dX7_walk_14 : decode cX7_walk 14 = .ok (.iconst 1, 1) := by decide +kernel
theorem dX7_walk_15 : decode cX7_walk 15 = .ok (.isub, 1) := by decide +kernel
theorem dX7_walk_16 : decode cX7_walk 16 = .ok (.i2l, 1) := by decide +kernel
theorem dX7_walk_17 : decode cX7_walk 17 = .ok (.invokestatic 90, 3) := by decide +kernel
theorem dX7_walk_20 : decode cX7_walk 20 = .ok (.ifCond .eq 7, 3) := by decide +kernel
theorem dX7_walk_23 : decode cX7_walk 23 = .ok (.iconst 0, 1) := by decide +kernel
theorem dX7_walk_24 : decode cX7_walk 24 = .ok (.goto 4, 3) := by decide +kernel
theorem dX7_walk_27 : decode cX7_walk 27 = .ok (.iconst 1, 1) := by decide +kernel
theorem dX7_walk_28 : decode cX7_walk 28 = .ok (.putfield 1, 3) := by decide +kernel
theorem dX7_walk_31 : decode cX7_walk 31 = .ok (.aload_n 0, 1) := by decide +kernel
theorem dX7_walk_32 : decode cX7_walk 32 = .ok (.getfield 1, 3) := by decide +kernel
theorem dX7_walk_35 : decode cX7_walk 35 = .ok (.ifCond .le 7, 3) := by decide +kernel
theorem dX7_walk_38 : decode cX7_walk 38 = .ok (.iconst 0, 1) := by decide +kernel
theorem dX7_walk_39 : decode cX7_walk 39 = .ok (.goto 45, 3) := by decide +kernel
theorem dX7_walk_42 : decode cX7_walk 42 = .ok (.aload_n 0, 1) := by decide +kernel
theorem dX7_walk_43 : decode cX7_walk 43 = .ok (.getfield 33, 3) := by decide +kernel
theorem dX7_walk_46 : decode cX7_walk 46 = .ok (.aload_n 0, 1) := by decide +kernel
theorem dX7_walk_47 : decode cX7_walk 47 = .ok (.getfield 48, 3) := by decide +kernel
theorem dX7_walk_50 : decode cX7_walk 50 = .ok (.iload_n 1, 1) := by decide +kernel
theorem dX7_walk_51 : decode cX7_walk 51 = .ok (.iaload, 1) := by decide +kernel
theorem dX7_walk_52 : decode cX7_walk 52 = .ok (.baload, 1) := by decide +kernel
theorem dX7_walk_53 : decode cX7_walk 53 = .ok (.ifCond .eq 17, 3) := by decide +kernel
theorem dX7_walk_56 : decode cX7_walk 56 = .ok (.aload_n 0, 1) := by decide +kernel
theorem dX7_walk_57 : decode cX7_walk 57 = .ok (.getfield 27, 3) := by decide +kernel
theorem dX7_walk_60 : decode cX7_walk 60 = .ok (.aload_n 0, 1) := by decide +kernel
theorem dX7_walk_61 : decode cX7_walk 61 = .ok (.getfield 48, 3) := by decide +kernel
theorem dX7_walk_64 : decode cX7_walk 64 = .ok (.iload_n 1, 1) := by decide +kernel
theorem dX7_walk_65 : decode cX7_walk 65 = .ok (.iaload, 1) := by decide +kernel
theorem dX7_walk_66 : decode cX7_walk 66 = .ok (.iaload, 1) := by decide +kernel
theorem dX7_walk_67 : decode cX7_walk 67 = .ok (.goto 17, 3) := by decide +kernel
theorem dX7_walk_70 : decode cX7_walk 70 = .ok (.aload_n 0, 1) := by decide +kernel
theorem dX7_walk_71 : decode cX7_walk 71 = .ok (.getfield 27, 3) := by decide +kernel
theorem dX7_walk_74 : decode cX7_walk 74 = .ok (.aload_n 0, 1) := by decide +kernel
theorem dX7_walk_75 : decode cX7_walk 75 = .ok (.getfield 48, 3) := by decide +kernel
theorem dX7_walk_78 : decode cX7_walk 78 = .ok (.iload_n 1, 1) := by decide +kernel
theorem dX7_walk_79 : decode cX7_walk 79 = .ok (.iaload, 1) := by decide +kernel
theorem dX7_walk_80 : decode cX7_walk 80 = .ok (.iaload, 1) := by decide +kernel
theorem dX7_walk_81 : decode cX7_walk 81 = .ok (.bipush 100, 2) := by decide +kernel
theorem dX7_walk_83 : decode cX7_walk 83 = .ok (.isub, 1) := by decide +kernel
theorem dX7_walk_84 : decode cX7_walk 84 = .ok (.ireturn, 1) := by decide +kernel
theorem dX7_count_0 : decode cX7_count 0 = .ok (.aload_n 0, 1) := by decide +kernel
theorem dX7_count_1 : decode cX7_count 1 = .ok (.iload_n 1, 1) := by decide +kernel
theorem dX7_count_2 : decode cX7_count 2 = .ok (.i2l, 1) := by decide +kernel
theorem dX7_count_3 : decode cX7_count 3 = .ok (.lconst 0, 1) := by decide +kernel
theorem dX7_count_4 : decode cX7_count 4 = .ok (.ldc2_w 174, 3) := by decide +kernel
theorem dX7_count_7 : decode cX7_count 7 = .ok (.invokestatic 90, 3) := by decide +kernel
theorem dX7_count_10 : decode cX7_count 10 = .ok (.ifCond .eq 7, 3) := by decide +kernel
theorem dX7_count_13 : decode cX7_count 13 = .ok (.iconst 0, 1) := by decide +kernel
theorem dX7_count_14 : decode cX7_count 14 = .ok (.goto 4, 3) := by decide +kernel
theorem dX7_count_17 : decode cX7_count 17 = .ok (.iconst 1, 1) := by decide +kernel
theorem dX7_count_18 : decode cX7_count 18 = .ok (.putfield 1, 3) := by decide +kernel
theorem dX7_count_21 : decode cX7_count 21 = .ok (.aload_n 0, 1) := by decide +kernel
theorem dX7_count_22 : decode cX7_count 22 = .ok (.getfield 1, 3) := by decide +kernel
theorem dX7_count_25 : decode cX7_count 25 = .ok (.ifCond .le 5, 3) := by decide +kernel
theorem dX7_count_28 : decode cX7_count 28 = .ok (.iconst 0, 1) := by decide +kernel
theorem dX7_count_29 : decode cX7_count 29 = .ok (.ireturn, 1) := by decide +kernel
theorem dX7_count_30 : decode cX7_count 30 = .ok (.aload_n 0, 1) := by decide +kernel
theorem dX7_count_31 : decode cX7_count 31 = .ok (.aload_n 0, 1) := by decide +kernel
theorem dX7_count_32 : decode cX7_count 32 = .ok (.getfield 45, 3) := by decide +kernel
theorem dX7_count_35 : decode cX7_count 35 = .ok (.invokevirtual 98, 3) := by decide +kernel
theorem dX7_count_38 : decode cX7_count 38 = .ok (.istore_n 2, 1) := by decide +kernel
theorem dX7_count_39 : decode cX7_count 39 = .ok (.iload_n 1, 1) := by decide +kernel
theorem dX7_count_40 : decode cX7_count 40 = .ok (.iconst 4, 1) := by decide +kernel
theorem dX7_count_41 : decode cX7_count 41 = .ok (.if_icmp .ne 57, 3) := by decide +kernel
theorem dX7_count_44 : decode cX7_count 44 = .ok (.iconst 0, 1) := by decide +kernel
theorem dX7_count_45 : decode cX7_count 45 = .ok (.istore_n 3, 1) := by decide +kernel
theorem dX7_count_46 : decode cX7_count 46 = .ok (.iconst 0, 1) := by decide +kernel
theorem dX7_count_47 : decode cX7_count 47 = .ok (.istore 4, 2) := by decide +kernel
theorem dX7_count_49 : decode cX7_count 49 = .ok (.iload 4, 2) := by decide +kernel
theorem dX7_count_51 : decode cX7_count 51 = .ok (.iload_n 2, 1) := by decide +kernel
theorem dX7_count_52 : decode cX7_count 52 = .ok (.if_icmp .ge 44, 3) := by decide +kernel
theorem dX7_count_55 : decode cX7_count 55 = .ok (.aload_n 0, 1) := by decide +kernel
theorem dX7_count_56 : decode cX7_count 56 = .ok (.aload_n 0, 1) := by decide +kernel
theorem dX7_count_57 : decode cX7_count 57 = .ok (.getfield 48, 3) := by decide +kernel
theorem dX7_count_60 : decode cX7_count 60 = .ok (.iload 4, 2) := by decide +kernel
theorem dX7_count_62 : decode cX7_count 62 = .ok (.iaload, 1) := by decide +kernel
theorem dX7_count_63 : decode cX7_count 63 = .ok (.invokevirtual 106, 3) := by decide +kernel
theorem dX7_count_66 : decode cX7_count 66 = .ok (.iconst 1, 1) := by decide +kernel
theorem dX7_count_67 : decode cX7_count 67 = .ok (.iadd, 1) := by decide +kernel
theorem dX7_count_68 : decode cX7_count 68 = .ok (.iload_n 3, 1) := by decide +kernel
theorem dX7_count_69 : decode cX7_count 69 = .ok (.if_icmp .le 19, 3) := by decide +kernel
theorem dX7_count_72 : decode cX7_count 72 = .ok (.aload_n 0, 1) := by decide +kernel
theorem dX7_count_73 : decode cX7_count 73 = .ok (.aload_n 0, 1) := by decide +kernel
theorem dX7_count_74 : decode cX7_count 74 = .ok (.getfield 48, 3) := by decide +kernel
theorem dX7_count_77 : decode cX7_count 77 = .ok (.iload 4, 2) := by decide +kernel
theorem dX7_count_79 : decode cX7_count 79 = .ok (.iaload, 1) := by decide +kernel
theorem dX7_count_80 : decode cX7_count 80 = .ok (.invokevirtual 106, 3) := by decide +kernel
theorem dX7_count_83 : decode cX7_count 83 = .ok (.iconst 1, 1) := by decide +kernel
theorem dX7_count_84 : decode cX7_count 84 = .ok (.iadd, 1) := by decide +kernel
theorem dX7_count_85 : decode cX7_count 85 = .ok (.goto 4, 3) := by decide +kernel
theorem dX7_count_88 : decode cX7_count 88 = .ok (.iload_n 3, 1) := by decide +kernel
theorem dX7_count_89 : decode cX7_count 89 = .ok (.istore_n 3, 1) := by decide +kernel
theorem dX7_count_90 : decode cX7_count 90 = .ok (.iinc 4 1, 3) := by decide +kernel
theorem dX7_count_93 : decode cX7_count 93 = .ok (.goto (-44), 3) := by decide +kernel
theorem dX7_count_96 : decode cX7_count 96 = .ok (.iload_n 3, 1) := by decide +kernel
theorem dX7_count_97 : decode cX7_count 97 = .ok (.ireturn, 1) := by decide +kernel
theorem dX7_count_98 : decode cX7_count 98 = .ok (.iload_n 1, 1) := by decide +kernel
theorem dX7_count_99 : decode cX7_count 99 = .ok (.ifCond .ne 10, 3) := by decide +kernel
theorem dX7_count_102 : decode cX7_count 102 = .ok (.aload_n 0, 1) := by decide +kernel
theorem dX7_count_103 : decode cX7_count 103 = .ok (.getfield 85, 3) := by decide +kernel
theorem dX7_count_106 : decode cX7_count 106 = .ok (.goto 67, 3) := by decide +kernel
theorem dX7_count_109 : decode cX7_count 109 = .ok (.iload_n 1, 1) := by decide +kernel
theorem dX7_count_110 : decode cX7_count 110 = .ok (.iconst 1, 1) := by decide +kernel
theorem dX7_count_111 : decode cX7_count 111 = .ok (.if_icmp .ne 10, 3) := by decide +kernel
theorem dX7_count_114 : decode cX7_count 114 = .ok (.aload_n 0, 1) := by decide +kernel
theorem dX7_count_115 : decode cX7_count 115 = .ok (.getfield 125, 3) := by decide +kernel
theorem dX7_count_118 : decode cX7_count 118 = .ok (.goto 55, 3) := by decide +kernel
theorem dX7_count_121 : decode cX7_count 121 = .ok (.iload_n 1, 1) := by decide +kernel
theorem dX7_count_122 : decode cX7_count 122 = .ok (.iconst 2, 1) := by decide +kernel
theorem dX7_count_123 : decode cX7_count 123 = .ok (.if_icmp .ne 7, 3) := by decide +kernel
theorem dX7_count_126 : decode cX7_count 126 = .ok (.iload_n 2, 1) := by decide +kernel
theorem dX7_count_127 : decode cX7_count 127 = .ok (.goto 46, 3) := by decide +kernel
theorem dX7_count_130 : decode cX7_count 130 = .ok (.iload_n 1, 1) := by decide +kernel
theorem dX7_count_131 : decode cX7_count 131 = .ok (.iconst 3, 1) := by decide +kernel
theorem dX7_count_132 : decode cX7_count 132 = .ok (.if_icmp .ne 12, 3) := by decide +kernel
theorem dX7_count_135 : decode cX7_count 135 = .ok (.iload_n 2, 1) := by decide +kernel
theorem dX7_count_136 : decode cX7_count 136 = .ok (.aload_n 0, 1) := by decide +kernel
theorem dX7_count_137 : decode cX7_count 137 = .ok (.getfield 125, 3) := by decide +kernel
theorem dX7_count_140 : decode cX7_count 140 = .ok (.isub, 1) := by decide +kernel
theorem dX7_count_141 : decode cX7_count 141 = .ok (.goto 32, 3) := by decide +kernel
theorem dX7_count_144 : decode cX7_count 144 = .ok (.iload_n 1, 1) := by decide +kernel
theorem dX7_count_145 : decode cX7_count 145 = .ok (.iconst 5, 1) := by decide +kernel
theorem dX7_count_146 : decode cX7_count 146 = .ok (.if_icmp .ne 10, 3) := by decide +kernel
theorem dX7_count_149 : decode cX7_count 149 = .ok (.aload_n 0, 1) := by decide +kernel
theorem dX7_count_150 : decode cX7_count 150 = .ok (.getfield 132, 3) := by decide +kernel
theorem dX7_count_153 : decode cX7_count 153 = .ok (.goto 20, 3) := by decide +kernel
theorem dX7_count_156 : decode cX7_count 156 = .ok (.iload_n 1, 1) := by decide +kernel
theorem dX7_count_157 : decode cX7_count 157 = .ok (.bipush 6, 2) := by decide +kernel
theorem dX7_count_159 : decode cX7_count 159 = .ok (.if_icmp .ne 10, 3) := by decide +kernel
theorem dX7_count_162 : decode cX7_count 162 = .ok (.aload_n 0, 1) := by decide +kernel
theorem dX7_count_163 : decode cX7_count 163 = .ok (.getfield 141, 3) := by decide +kernel
theorem dX7_count_166 : decode cX7_count 166 = .ok (.goto 7, 3) := by decide +kernel
theorem dX7_count_169 : decode cX7_count 169 = .ok (.aload_n 0, 1) := by decide +kernel
theorem dX7_count_170 : decode cX7_count 170 = .ok (.getfield 135, 3) := by decide +kernel
theorem dX7_count_173 : decode cX7_count 173 = .ok (.ireturn, 1) := by decide +kernel
