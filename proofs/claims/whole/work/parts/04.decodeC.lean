theorem dX10_init_0 : decode cX10_init 0 = .ok (.aload_n 0, 1) := by decide +kernel
theorem dX10_init_1 : decode cX10_init 1 = .ok (.invokespecial 1, 3) := by decide +kernel
theorem dX10_init_4 : decode cX10_init 4 = .ok (.aload_n 0, 1) := by decide +kernel
theorem dX10_init_5 : decode cX10_init 5 = .ok (.bipush 8, 2) := by decide +kernel
theorem dX10_init_7 : decode cX10_init 7 = .ok (.newarray .int, 2) := by decide +kernel
theorem dX10_init_9 : decode cX10_init 9 = .ok (.putfield 7, 3) := by decide +kernel
theorem dX10_init_12 : decode cX10_init 12 = .ok (.aload_n 0, 1) := by decide +kernel
theorem dX10_init_13 : decode cX10_init 13 = .ok (.bipush 8, 2) := by decide +kernel
theorem dX10_init_15 : decode cX10_init 15 = .ok (.newarray .int, 2) := by decide +kernel
theorem dX10_init_17 : decode cX10_init 17 = .ok (.putfield 13, 3) := by decide +kernel
theorem dX10_init_20 : decode cX10_init 20 = .ok (.aload_n 0, 1) := by decide +kernel
theorem dX10_init_21 : decode cX10_init 21 = .ok (.bipush 8, 2) := by decide +kernel
theorem dX10_init_23 : decode cX10_init 23 = .ok (.newarray .int, 2) := by decide +kernel
theorem dX10_init_25 : decode cX10_init 25 = .ok (.putfield 16, 3) := by decide +kernel
theorem dX10_init_28 : decode cX10_init 28 = .ok (.aload_n 0, 1) := by decide +kernel
theorem dX10_init_29 : decode cX10_init 29 = .ok (.bipush 8, 2) := by decide +kernel
theorem dX10_init_31 : decode cX10_init 31 = .ok (.bipush 40, 2) := by decide +kernel
theorem dX10_init_33 : decode cX10_init 33 = .ok (.multianewarray 19 2, 4) := by decide +kernel
theorem dX10_init_37 : decode cX10_init 37 = .ok (.putfield 21, 3) := by decide +kernel
theorem dX10_init_40 : decode cX10_init 40 = .ok (.aload_n 0, 1) := by decide +kernel
theorem dX10_init_41 : decode cX10_init 41 = .ok (.bipush 40, 2) := by decide +kernel
theorem dX10_init_43 : decode cX10_init 43 = .ok (.newarray .long, 2) := by decide +kernel
theorem dX10_init_45 : decode cX10_init 45 = .ok (.putfield 24, 3) := by decide +kernel
theorem dX10_init_48 : decode cX10_init 48 = .ok (.aload_n 0, 1) := by decide +kernel
theorem dX10_init_49 : decode cX10_init 49 = .ok (.bipush 8, 2) := by decide +kernel
theorem dX10_init_51 : decode cX10_init 51 = .ok (.newarray .int, 2) := by decide +kernel
theorem dX10_init_53 : decode cX10_init 53 = .ok (.putfield 28, 3) := by decide +kernel
theorem dX10_init_56 : decode cX10_init 56 = .ok (.aload_n 0, 1) := by decide +kernel
theorem dX10_init_57 : decode cX10_init 57 = .ok (.sipush 250, 3) := by decide +kernel
theorem dX10_init_60 : decode cX10_init 60 = .ok (.newarray .int, 2) := by decide +kernel
theorem dX10_init_62 : decode cX10_init 62 = .ok (.putfield 31, 3) := by decide +kernel
theorem dX10_init_65 : decode cX10_init 65 = .ok (.aload_n 0, 1) := by decide +kernel
theorem dX10_init_66 : decode cX10_init 66 = .ok (.bipush 8, 2) := by decide +kernel
theorem dX10_init_68 : decode cX10_init 68 = .ok (.newarray .int, 2) := by decide +kernel
theorem dX10_init_70 : decode cX10_init 70 = .ok (.putfield 34, 3) := by decide +kernel
theorem dX10_init_73 : decode cX10_init 73 = .ok (.aload_n 0, 1) := by decide +kernel
theorem dX10_init_74 : decode cX10_init 74 = .ok (.bipush 12, 2) := by decide +kernel
theorem dX10_init_76 : decode cX10_init 76 = .ok (.bipush 8, 2) := by decide +kernel
theorem dX10_init_78 : decode cX10_init 78 = .ok (.multianewarray 37 2, 4) := by decide +kernel
theorem dX10_init_82 : decode cX10_init 82 = .ok (.putfield 39, 3) := by decide +kernel
theorem dX10_init_85 : decode cX10_init 85 = .ok (.aload_n 0, 1) := by decide +kernel
theorem dX10_init_86 : decode cX10_init 86 = .ok (.bipush 12, 2) := by decide +kernel
theorem dX10_init_88 : decode cX10_init 88 = .ok (.newarray .int, 2) := by decide +kernel
theorem dX10_init_90 : decode cX10_init 90 = .ok (.putfield 42, 3) := by decide +kernel
theorem dX10_init_93 : decode cX10_init 93 = .ok (.aload_n 0, 1) := by decide +kernel
theorem dX10_init_94 : decode cX10_init 94 = .ok (.bipush 12, 2) := by decide +kernel
theorem dX10_init_96 : decode cX10_init 96 = .ok (.newarray .int, 2) := by decide +kernel
theorem dX10_init_98 : decode cX10_init 98 = .ok (.putfield 45, 3) := by decide +kernel
theorem dX10_init_101 : decode cX10_init 101 = .ok (.aload_n 0, 1) := by decide +kernel
theorem dX10_init_102 : decode cX10_init 102 = .ok (.bipush 12, 2) := by decide +kernel
theorem dX10_init_104 : decode cX10_init 104 = .ok (.newarray .int, 2) := by decide +kernel
theorem dX10_init_106 : decode cX10_init 106 = .ok (.putfield 48, 3) := by decide +kernel
theorem dX10_init_109 : decode cX10_init 109 = .ok (.aload_n 0, 1) := by decide +kernel
theorem dX10_init_110 : decode cX10_init 110 = .ok (.bipush 6, 2) := by decide +kernel
theorem dX10_init_112 : decode cX10_init 112 = .ok (.newarray .int, 2) := by decide +kernel
theorem dX10_init_114 : decode cX10_init 114 = .ok (.putfield 51, 3) := by decide +kernel
theorem dX10_init_117 : decode cX10_init 117 = .ok (.aload_n 0, 1) := by decide +kernel
theorem dX10_init_118 : decode cX10_init 118 = .ok (.bipush 6, 2) := by decide +kernel
theorem dX10_init_120 : decode cX10_init 120 = .ok (.newarray .int, 2) := by decide +kernel
theorem dX10_init_122 : decode cX10_init 122 = .ok (.putfield 54, 3) := by decide +kernel
theorem dX10_init_125 : decode cX10_init 125 = .ok (.aload_n 0, 1) := by decide +kernel
theorem dX10_init_126 : decode cX10_init 126 = .ok (.bipush 8, 2) := by decide +kernel
theorem dX10_init_128 : decode cX10_init 128 = .ok (.newarray .int, 2) := by decide +kernel
theorem dX10_init_130 : decode cX10_init 130 = .ok (.putfield 57, 3) := by decide +kernel
theorem dX10_init_133 : decode cX10_init 133 = .ok (.aload_n 0, 1) := by decide +kernel
theorem dX10_init_134 : decode cX10_init 134 = .ok (.bipush 8, 2) := by decide +kernel
theorem dX10_init_136 : decode cX10_init 136 = .ok (.newarray .int, 2) := by decide +kernel
theorem dX10_init_138 : decode cX10_init 138 = .ok (.putfield 60, 3) := by decide +kernel
theorem dX10_init_141 : decode cX10_init 141 = .ok (.aload_n 0, 1) := by decide +kernel
theorem dX10_init_142 : decode cX10_init 142 = .ok (.sipush 600, 3) := by decide +kernel
theorem dX10_init_145 : decode cX10_init 145 = .ok (.putfield 63, 3) := by decide +kernel
theorem dX10_init_148 : decode cX10_init 148 = .ok (.aload_n 0, 1) := by decide +kernel
theorem dX10_init_149 : decode cX10_init 149 = .ok (.bipush 20, 2) := by decide +kernel
theorem dX10_init_151 : decode cX10_init 151 = .ok (.putfield 67, 3) := by decide +kernel
theorem dX10_init_154 : decode cX10_init 154 = .ok (.aload_n 0, 1) := by decide +kernel
theorem dX10_init_155 : decode cX10_init 155 = .ok (.iconst 1, 1) := by decide +kernel
theorem dX10_init_156 : decode cX10_init 156 = .ok (.putfield 70, 3) := by decide +kernel
theorem dX10_init_159 : decode cX10_init 159 = .ok (.aload_n 0, 1) := by decide +kernel
theorem dX10_init_160 : decode cX10_init 160 = .ok (.iconst 2, 1) := by decide +kernel
theorem dX10_init_161 : decode cX10_init 161 = .ok (.newarray .int, 2) := by decide +kernel
theorem dX10_init_163 : decode cX10_init 163 = .ok (.putfield 73, 3) := by decide +kernel
theorem dX10_init_166 : decode cX10_init 166 = .ok (.aload_n 0, 1) := by decide +kernel
theorem dX10_init_167 : decode cX10_init 167 = .ok (.bipush 8, 2) := by decide +kernel
theorem dX10_init_169 : decode cX10_init 169 = .ok (.newarray .long, 2) := by decide +kernel
theorem dX10_init_171 : decode cX10_init 171 = .ok (.putfield 76, 3) := by decide +kernel
theorem dX10_init_174 : decode cX10_init 174 = .ok (.aload_n 0, 1) := by decide +kernel
theorem dX10_init_175 : decode cX10_init 175 = .ok (.bipush 8, 2) := by decide +kernel
theorem dX10_init_177 : decode cX10_init 177 = .ok (.newarray .int, 2) := by decide +kernel
theorem dX10_init_179 : decode cX10_init 179 = .ok (.putfield 79, 3) := by decide +kernel
theorem dX10_init_182 : decode cX10_init 182 = .ok (.aload_n 0, 1) := by decide +kernel
theorem dX10_init_183 : decode cX10_init 183 = .ok (.bipush 8, 2) := by decide +kernel
theorem dX10_init_185 : decode cX10_init 185 = .ok (.newarray .int, 2) := by decide +kernel
theorem dX10_init_187 : decode cX10_init 187 = .ok (.putfield 82, 3) := by decide +kernel
theorem dX10_init_190 : decode cX10_init 190 = .ok (.aload_n 0, 1) := by decide +kernel
theorem dX10_init_191 : decode cX10_init 191 = .ok (.bipush 8, 2) := by decide +kernel
theorem dX10_init_193 : decode cX10_init 193 = .ok (.newarray .int, 2) := by decide +kernel
theorem dX10_init_195 : decode cX10_init 195 = .ok (.putfield 85, 3) := by decide +kernel
theorem dX10_init_198 : decode cX10_init 198 = .ok (.return_, 1) := by decide +kernel
theorem dX10_refuse_0 : decode cX10_refuse 0 = .ok (.aload_n 0, 1) := by decide +kernel
theorem dX10_refuse_1 : decode cX10_refuse 1 = .ok (.getfield 34, 3) := by decide +kernel
theorem dX10_refuse_4 : decode cX10_refuse 4 = .ok (.iload_n 1, 1) := by decide +kernel
theorem dX10_refuse_5 : decode cX10_refuse 5 = .ok (.ineg, 1) := by decide +kernel
theorem dX10_refuse_6 : decode cX10_refuse 6 = .ok (.dup2, 1) := by decide +kernel
theorem dX10_refuse_7 : decode cX10_refuse 7 = .ok (.iaload, 1) := by decide +kernel
theorem dX10_refuse_8 : decode cX10_refuse 8 = .ok (.iconst 1, 1) := by decide +kernel
theorem dX10_refuse_9 : decode cX10_refuse 9 = .ok (.iadd, 1) := by decide +kernel
theorem dX10_refuse_10 : decode cX10_refuse 10 = .ok (.iastore, 1) := by decide +kernel
theorem dX10_refuse_11 : decode cX10_refuse 11 = .ok (.iload_n 1, 1) := by decide +kernel
theorem dX10_refuse_12 : decode cX10_refuse 12 = .ok (.ireturn, 1) := by decide +kernel
theorem dX10_in_0 : decode cX10_in 0 = .ok (.lload_n 0, 1) := by decide +kernel
theorem dX10_in_1 : decode cX10_in 1 = .ok (.lload_n 2, 1) := by decide +kernel
theorem dX10_in_2 : decode cX10_in 2 = .ok (.lcmp, 1) := by decide +kernel
theorem dX10_in_3 : decode cX10_in 3 = .ok (.ifCond .lt 14, 3) := by decide +kernel
theorem dX10_in_6 : decode cX10_in 6 = .ok (.lload_n 0, 1) := by decide +kernel
theorem dX10_in_7 : decode cX10_in 7 = .ok (.lload 4, 2) := by decide +kernel
theorem dX10_in_9 : decode cX10_in 9 = .ok (.lcmp, 1) := by decide +kernel
theorem dX10_in_10 : decode cX10_in 10 = .ok (.ifCond .gt 7, 3) := by decide +kernel
theorem dX10_in_13 : decode cX10_in 13 = .ok (.iconst 1, 1) := by decide +kernel
theorem dX10_in_14 : decode cX10_in 14 = .ok (.goto 4, 3) := by decide +kernel
theorem dX10_in_17 : decode cX10_in 17 = .ok (.iconst 0, 1) := by decide +kernel
theorem dX10_in_18 : decode cX10_in 18 = .ok (.ireturn, 1) := by decide +kernel
theorem dX10_isCall_0 : decode cX10_isCall 0 = .ok (.iload_n 1, 1) := by decide +kernel
theorem dX10_isCall_1 : decode cX10_isCall 1 = .ok (.i2l, 1) := by decide +kernel
theorem dX10_isCall_2 : decode cX10_isCall 2 = .ok (.lconst 0, 1) := by decide +kernel
theorem dX10_isCall_3 : decode cX10_isCall 3 = .ok (.aload_n 0, 1) := by decide +kernel
theorem dX10_isCall_4 : decode cX10_isCall 4 = .ok (.getfield 88, 3) := by decide +kernel
theorem dX10_isCall_7 : decode cX10_isCall 7 = .ok (.iconst 1, 1) := by decide +kernel
theorem dX10_isCall_8 : decode cX10_isCall 8 = .ok (.isub, 1) := by decide +kernel
theorem dX10_isCall_9 : decode cX10_isCall 9 = .ok (.i2l, 1) := by decide +kernel
theorem dX10_isCall_10 : decode cX10_isCall 10 = .ok (.invokestatic 91, 3) := by decide +kernel
theorem dX10_isCall_13 : decode cX10_isCall 13 = .ok (.ireturn, 1) := by decide +kernel
theorem dX10_isEar_0 : decode cX10_isEar 0 = .ok (.iload_n 1, 1) := by decide +kernel
theorem dX10_isEar_1 : decode cX10_isEar 1 = .ok (.i2l, 1) := by decide +kernel
theorem dX10_isEar_2 : decode cX10_isEar 2 = .ok (.lconst 0, 1) := by decide +kernel
theorem dX10_isEar_3 : decode cX10_isEar 3 = .ok (.aload_n 0, 1) := by decide +kernel
theorem dX10_isEar_4 : decode cX10_isEar 4 = .ok (.getfield 95, 3) := by decide +kernel
theorem dX10_isEar_7 : decode cX10_isEar 7 = .ok (.iconst 1, 1) := by decide +kernel
theorem dX10_isEar_8 : decode cX10_isEar 8 = .ok (.isub, 1) := by decide +kernel
theorem dX10_isEar_9 : decode cX10_isEar 9 = .ok (.i2l, 1) := by decide +kernel
theorem dX10_isEar_10 : decode cX10_isEar 10 = .ok (.invokestatic 91, 3) := by decide +kernel
theorem dX10_isEar_13 : decode cX10_isEar 13 = .ok (.ireturn, 1) := by decide +kernel
theorem dX10_isMan_0 : decode cX10_isMan 0 = .ok (.iload_n 1, 1) := by decide +kernel
theorem dX10_isMan_1 : decode cX10_isMan 1 = .ok (.i2l, 1) := by decide +kernel
theorem dX10_isMan_2 : decode cX10_isMan 2 = .ok (.lconst 0, 1) := by decide +kernel
theorem dX10_isMan_3 : decode cX10_isMan 3 = .ok (.aload_n 0, 1) := by decide +kernel
theorem dX10_isMan_4 : decode cX10_isMan 4 = .ok (.getfield 98, 3) := by decide +kernel
theorem dX10_isMan_7 : decode cX10_isMan 7 = .ok (.iconst 1, 1) := by decide +kernel
theorem dX10_isMan_8 : decode cX10_isMan 8 = .ok (.isub, 1) := by decide +kernel
theorem dX10_isMan_9 : decode cX10_isMan 9 = .ok (.i2l, 1) := by decide +kernel
theorem dX10_isMan_10 : decode cX10_isMan 10 = .ok (.invokestatic 91, 3) := by decide +kernel
theorem dX10_isMan_13 : decode cX10_isMan 13 = .ok (.ireturn, 1) := by decide +kernel
theorem dX10_has_0 : decode cX10_has 0 = .ok (.iload_n 0, 1) := by decide +kernel
theorem dX10_has_1 : decode cX10_has 1 = .ok (.iload_n 1, 1) := by decide +kernel
theorem dX10_has_2 : decode cX10_has 2 = .ok (.ishr, 1) := by decide +kernel
theorem dX10_has_3 : decode cX10_has 3 = .ok (.iconst 1, 1) := by decide +kernel
theorem dX10_has_4 : decode cX10_has 4 = .ok (.iand, 1) := by decide +kernel
theorem dX10_has_5 : decode cX10_has 5 = .ok (.ifCond .eq 7, 3) := by decide +kernel
theorem dX10_has_8 : decode cX10_has 8 = .ok (.iconst 1, 1) := by decide +kernel
theorem dX10_has_9 : decode cX10_has 9 = .ok (.goto 4, 3) := by decide +kernel
theorem dX10_has_12 : decode cX10_has 12 = .ok (.iconst 0, 1) := by decide +kernel
theorem dX10_has_13 : decode cX10_has 13 = .ok (.ireturn, 1) := by decide +kernel
theorem dX10_row_0 : decode cX10_row 0 = .ok (.iload_n 1, 1) := by decide +kernel
theorem dX10_row_1 : decode cX10_row 1 = .ok (.i2l, 1) := by decide +kernel
theorem dX10_row_2 : decode cX10_row 2 = .ok (.lconst 0, 1) := by decide +kernel
theorem dX10_row_3 : decode cX10_row 3 = .ok (.ldc2_w 101, 3) := by decide +kernel
theorem dX10_row_6 : decode cX10_row 6 = .ok (.invokestatic 91, 3) := by decide +kernel
theorem dX10_row_9 : decode cX10_row 9 = .ok (.ifCond .eq 27, 3) := by decide +kernel
theorem dX10_row_12 : decode cX10_row 12 = .ok (.iload_n 2, 1) := by decide +kernel
theorem dX10_row_13 : decode cX10_row 13 = .ok (.i2l, 1) := by decide +kernel
theorem dX10_row_14 : decode cX10_row 14 = .ok (.lconst 0, 1) := by decide +kernel
theorem dX10_row_15 : decode cX10_row 15 = .ok (.ldc2_w 103, 3) := by decide +kernel
theorem dX10_row_18 : decode cX10_row 18 = .ok (.invokestatic 91, 3) := by decide +kernel
theorem dX10_row_21 : decode cX10_row 21 = .ok (.ifCond .eq 15, 3) := by decide +kernel
theorem dX10_row_24 : decode cX10_row 24 = .ok (.iload_n 3, 1) := by decide +kernel
theorem dX10_row_25 : decode cX10_row 25 = .ok (.i2l, 1) := by decide +kernel
theorem dX10_row_26 : decode cX10_row 26 = .ok (.lconst 0, 1) := by decide +kernel
theorem dX10_row_27 : decode cX10_row 27 = .ok (.ldc2_w 105, 3) := by decide +kernel
theorem dX10_row_30 : decode cX10_row 30 = .ok (.invokestatic 91, 3) := by decide +kernel
theorem dX10_row_33 : decode cX10_row 33 = .ok (.ifCond .ne 10, 3) := by decide +kernel
theorem dX10_row_36 : decode cX10_row 36 = .ok (.aload_n 0, 1) := by decide +kernel
theorem dX10_row_37 : decode cX10_row 37 = .ok (.bipush (-2), 2) := by decide +kernel
theorem dX10_row_39 : decode cX10_row 39 = .ok (.invokevirtual 107, 3) := by decide +kernel
theorem dX10_row_42 : decode cX10_row 42 = .ok (.ireturn, 1) := by decide +kernel
theorem dX10_row_43 : decode cX10_row 43 = .ok (.aload_n 0, 1) := by decide +kernel
theorem dX10_row_44 : decode cX10_row 44 = .ok (.iload_n 1, 1) := by decide +kernel
theorem dX10_row_45 : decode cX10_row 45 = .ok (.iload_n 2, 1) := by decide +kernel
theorem dX10_row_46 : decode cX10_row 46 = .ok (.iload_n 3, 1) := by decide +kernel
theorem dX10_row_47 : decode cX10_row 47 = .ok (.invokevirtual 111, 3) := by decide +kernel
theorem dX10_row_50 : decode cX10_row 50 = .ok (.iconst 1, 1) := by decide +kernel
theorem dX10_row_51 : decode cX10_row 51 = .ok (.ireturn, 1) := by decide +kernel
theorem dX10_becomesRow_0 : decode cX10_becomesRow 0 = .ok (.aload_n 0, 1) := by decide +kernel
theorem dX10_becomesRow_1 : decode cX10_becomesRow 1 = .ok (.getfield 7, 3) := by decide +kernel
theorem dX10_becomesRow_4 : decode cX10_becomesRow 4 = .ok (.iload_n 1, 1) := by decide +kernel
theorem dX10_becomesRow_5 : decode cX10_becomesRow 5 = .ok (.iconst 1, 1) := by decide +kernel
theorem dX10_becomesRow_6 : decode cX10_becomesRow 6 = .ok (.iastore, 1) := by decide +kernel
theorem dX10_becomesRow_7 : decode cX10_becomesRow 7 = .ok (.aload_n 0, 1) := by decide +kernel
theorem dX10_becomesRow_8 : decode cX10_becomesRow 8 = .ok (.getfield 13, 3) := by decide +kernel
theorem dX10_becomesRow_11 : decode cX10_becomesRow 11 = .ok (.iload_n 1, 1) := by decide +kernel
theorem dX10_becomesRow_12 : decode cX10_becomesRow 12 = .ok (.iload_n 2, 1) := by decide +kernel
theorem dX10_becomesRow_13 : decode cX10_becomesRow 13 = .ok (.iastore, 1) := by decide +kernel
theorem dX10_becomesRow_14 : decode cX10_becomesRow 14 = .ok (.aload_n 0, 1) := by decide +kernel
theorem dX10_becomesRow_15 : decode cX10_becomesRow 15 = .ok (.getfield 16, 3) := by decide +kernel
theorem dX10_becomesRow_18 : decode cX10_becomesRow 18 = .ok (.iload_n 1, 1) := by decide +kernel
theorem dX10_becomesRow_19 : decode cX10_becomesRow 19 = .ok (.iload_n 3, 1) := by decide +kernel
theorem dX10_becomesRow_20 : decode cX10_becomesRow 20 = .ok (.iastore, 1) := by decide +kernel
theorem dX10_becomesRow_21 : decode cX10_becomesRow 21 = .ok (.iconst 0, 1) := by decide +kernel
theorem dX10_becomesRow_22 : decode cX10_becomesRow 22 = .ok (.istore 4, 2) := by decide +kernel
theorem dX10_becomesRow_24 : decode cX10_becomesRow 24 = .ok (.iload 4, 2) := by decide +kernel
theorem dX10_becomesRow_26 : decode cX10_becomesRow 26 = .ok (.bipush 40, 2) := by decide +kernel
theorem dX10_becomesRow_28 : decode cX10_becomesRow 28 = .ok (.if_icmp .ge 19, 3) := by decide +kernel
theorem dX10_becomesRow_31 : decode cX10_becomesRow 31 = .ok (.aload_n 0, 1) := by decide +kernel
theorem dX10_becomesRow_32 : decode cX10_becomesRow 32 = .ok (.getfield 21, 3) := by decide +kernel
theorem dX10_becomesRow_35 : decode cX10_becomesRow 35 = .ok (.iload_n 1, 1) := by decide +kernel
theorem dX10_becomesRow_36 : decode cX10_becomesRow 36 = .ok (.aaload, 1) := by decide +kernel
theorem dX10_becomesRow_37 : decode cX10_becomesRow 37 = .ok (.iload 4, 2) := by decide +kernel
theorem dX10_becomesRow_39 : decode cX10_becomesRow 39 = .ok (.lconst 0, 1) := by decide +kernel
theorem dX10_becomesRow_40 : decode cX10_becomesRow 40 = .ok (.lastore, 1) := by decide +kernel
theorem dX10_becomesRow_41 : decode cX10_becomesRow 41 = .ok (.iinc 4 1, 3) := by decide +kernel
theorem dX10_becomesRow_44 : decode cX10_becomesRow 44 = .ok (.goto (-20), 3) := by decide +kernel
theorem dX10_becomesRow_47 : decode cX10_becomesRow 47 = .ok (.return_, 1) := by decide +kernel
theorem dX10_fit_0 : decode cX10_fit 0 = .ok (.iload_n 0, 1) := by decide +kernel
theorem dX10_fit_1 : decode cX10_fit 1 = .ok (.tableswitch 47 0 3 #[31, 36, 41, 45], 31) := by decide +kernel
theorem dX10_fit_32 : decode cX10_fit 32 = .ok (.lload_n 1, 1) := by decide +kernel
theorem dX10_fit_33 : decode cX10_fit 33 = .ok (.l2i, 1) := by decide +kernel
theorem dX10_fit_34 : decode cX10_fit 34 = .ok (.i2b, 1) := by decide +kernel
theorem dX10_fit_35 : decode cX10_fit 35 = .ok (.i2l, 1) := by decide +kernel
theorem dX10_fit_36 : decode cX10_fit 36 = .ok (.lreturn, 1) := by decide +kernel
theorem dX10_fit_37 : decode cX10_fit 37 = .ok (.lload_n 1, 1) := by decide +kernel
theorem dX10_fit_38 : decode cX10_fit 38 = .ok (.l2i, 1) := by decide +kernel
theorem dX10_fit_39 : decode cX10_fit 39 = .ok (.i2s, 1) := by decide +kernel
theorem dX10_fit_40 : decode cX10_fit 40 = .ok (.i2l, 1) := by decide +kernel
theorem dX10_fit_41 : decode cX10_fit 41 = .ok (.lreturn, 1) := by decide +kernel
theorem dX10_fit_42 : decode cX10_fit 42 = .ok (.lload_n 1, 1) := by decide +kernel
theorem dX10_fit_43 : decode cX10_fit 43 = .ok (.l2i, 1) := by decide +kernel
theorem dX10_fit_44 : decode cX10_fit 44 = .ok (.i2l, 1) := by decide +kernel
theorem dX10_fit_45 : decode cX10_fit 45 = .ok (.lreturn, 1) := by decide +kernel
theorem dX10_fit_46 : decode cX10_fit 46 = .ok (.lload_n 1, 1) := by decide +kernel
theorem dX10_fit_47 : decode cX10_fit 47 = .ok (.lreturn, 1) := by decide +kernel
theorem dX10_fit_48 : decode cX10_fit 48 = .ok (.lload_n 1, 1) := by decide +kernel
theorem dX10_fit_49 : decode cX10_fit 49 = .ok (.lconst 0, 1) := by decide +kernel
theorem dX10_fit_50 : decode cX10_fit 50 = .ok (.lcmp, 1) := by decide +kernel
theorem dX10_fit_51 : decode cX10_fit 51 = .ok (.ifCond .eq 7, 3) := by decide +kernel
theorem dX10_fit_54 : decode cX10_fit 54 = .ok (.lconst 1, 1) := by decide +kernel
theorem dX10_fit_55 : decode cX10_fit 55 = .ok (.goto 4, 3) := by decide +kernel
theorem dX10_fit_58 : decode cX10_fit 58 = .ok (.lconst 0, 1) := by decide +kernel
theorem dX10_fit_59 : decode cX10_fit 59 = .ok (.lreturn, 1) := by decide +kernel
theorem dX10_noRow_0 : decode cX10_noRow 0 = .ok (.iload_n 1, 1) := by decide +kernel
theorem dX10_noRow_1 : decode cX10_noRow 1 = .ok (.i2l, 1) := by decide +kernel
theorem dX10_noRow_2 : decode cX10_noRow 2 = .ok (.lconst 0, 1) := by decide +kernel
theorem dX10_noRow_3 : decode cX10_noRow 3 = .ok (.ldc2_w 101, 3) := by decide +kernel
theorem dX10_noRow_6 : decode cX10_noRow 6 = .ok (.invokestatic 91, 3) := by decide +kernel
theorem dX10_noRow_9 : decode cX10_noRow 9 = .ok (.ifCond .ne 10, 3) := by decide +kernel
theorem dX10_noRow_12 : decode cX10_noRow 12 = .ok (.aload_n 0, 1) := by decide +kernel
theorem dX10_noRow_13 : decode cX10_noRow 13 = .ok (.bipush (-2), 2) := by decide +kernel
theorem dX10_noRow_15 : decode cX10_noRow 15 = .ok (.invokevirtual 107, 3) := by decide +kernel
theorem dX10_noRow_18 : decode cX10_noRow 18 = .ok (.ireturn, 1) := by decide +kernel
theorem dX10_noRow_19 : decode cX10_noRow 19 = .ok (.aload_n 0, 1) := by decide +kernel
theorem dX10_noRow_20 : decode cX10_noRow 20 = .ok (.getfield 7, 3) := by decide +kernel
theorem dX10_noRow_23 : decode cX10_noRow 23 = .ok (.iload_n 1, 1) := by decide +kernel
theorem dX10_noRow_24 : decode cX10_noRow 24 = .ok (.iaload, 1) := by decide +kernel
theorem dX10_noRow_25 : decode cX10_noRow 25 = .ok (.iconst 2, 1) := by decide +kernel
theorem dX10_noRow_26 : decode cX10_noRow 26 = .ok (.if_icmp .ne 10, 3) := by decide +kernel
theorem dX10_noRow_29 : decode cX10_noRow 29 = .ok (.aload_n 0, 1) := by decide +kernel
theorem dX10_noRow_30 : decode cX10_noRow 30 = .ok (.bipush (-3), 2) := by decide +kernel
theorem dX10_noRow_32 : decode cX10_noRow 32 = .ok (.invokevirtual 107, 3) := by decide +kernel
theorem dX10_noRow_35 : decode cX10_noRow 35 = .ok (.ireturn, 1) := by decide +kernel
theorem dX10_noRow_36 : decode cX10_noRow 36 = .ok (.aload_n 0, 1) := by decide +kernel
theorem dX10_noRow_37 : decode cX10_noRow 37 = .ok (.getfield 7, 3) := by decide +kernel
theorem dX10_noRow_40 : decode cX10_noRow 40 = .ok (.iload_n 1, 1) := by decide +kernel
theorem dX10_noRow_41 : decode cX10_noRow 41 = .ok (.iaload, 1) := by decide +kernel
theorem dX10_noRow_42 : decode cX10_noRow 42 = .ok (.ifCond .ne 12, 3) := by decide +kernel
theorem dX10_noRow_45 : decode cX10_noRow 45 = .ok (.aload_n 0, 1) := by decide +kernel
theorem dX10_noRow_46 : decode cX10_noRow 46 = .ok (.bipush (-4), 2) := by decide +kernel
theorem dX10_noRow_48 : decode cX10_noRow 48 = .ok (.invokevirtual 107, 3) := by decide +kernel
theorem dX10_noRow_51 : decode cX10_noRow 51 = .ok (.goto 4, 3) := by decide +kernel
theorem dX10_noRow_54 : decode cX10_noRow 54 = .ok (.iconst 0, 1) := by decide +kernel
theorem dX10_noRow_55 : decode cX10_noRow 55 = .ok (.ireturn, 1) := by decide +kernel
theorem dX10_set_0 : decode cX10_set 0 = .ok (.aload_n 0, 1) := by decide +kernel
theorem dX10_set_1 : decode cX10_set 1 = .ok (.iload_n 1, 1) := by decide +kernel
theorem dX10_set_2 : decode cX10_set 2 = .ok (.invokevirtual 115, 3) := by decide +kernel
theorem dX10_set_5 : decode cX10_set 5 = .ok (.istore 5, 2) := by decide +kernel
theorem dX10_set_7 : decode cX10_set 7 = .ok (.iload 5, 2) := by decide +kernel
theorem dX10_set_9 : decode cX10_set 9 = .ok (.ifCond .eq 6, 3) := by decide +kernel
theorem dX10_set_12 : decode cX10_set 12 = .ok (.iload 5, 2) := by decide +kernel
theorem dX10_set_14 : decode cX10_set 14 = .ok (.ireturn, 1) := by decide +kernel
theorem dX10_set_15 : decode cX10_set 15 = .ok (.iload_n 2, 1) := by decide +kernel
theorem dX10_set_16 : decode cX10_set 16 = .ok (.i2l, 1) := by decide +kernel
theorem dX10_set_17 : decode cX10_set 17 = .ok (.lconst 0, 1) := by decide +kernel
theorem dX10_set_18 : decode cX10_set 18 = .ok (.aload_n 0, 1) := by decide +kernel
theorem dX10_set_19 : decode cX10_set 19 = .ok (.getfield 16, 3) := by decide +kernel
theorem dX10_set_22 : decode cX10_set 22 = .ok (.iload_n 1, 1) := by decide +kernel
theorem dX10_set_23 : decode cX10_set 23 = .ok (.iaload, 1) := by decide +kernel
theorem dX10_set_24 : decode cX10_set 24 = .ok (.iconst 1, 1) := by decide +kernel
theorem dX10_set_25 : decode cX10_set 25 = .ok (.isub, 1) := by decide +kernel
theorem dX10_set_26 : decode cX10_set 26 = .ok (.i2l, 1) := by decide +kernel
theorem dX10_set_27 : decode cX10_set 27 = .ok (.invokestatic 91, 3) := by decide +kernel
theorem dX10_set_30 : decode cX10_set 30 = .ok (.ifCond .ne 10, 3) := by decide +kernel
theorem dX10_set_33 : decode cX10_set 33 = .ok (.aload_n 0, 1) := by decide +kernel
theorem dX10_set_34 : decode cX10_set 34 = .ok (.bipush (-2), 2) := by decide +kernel
theorem dX10_set_36 : decode cX10_set 36 = .ok (.invokevirtual 107, 3) := by decide +kernel
theorem dX10_set_39 : decode cX10_set 39 = .ok (.ireturn, 1) := by decide +kernel
theorem dX10_set_40 : decode cX10_set 40 = .ok (.aload_n 0, 1) := by decide +kernel
theorem dX10_set_41 : decode cX10_set 41 = .ok (.getfield 21, 3) := by decide +kernel
theorem dX10_set_44 : decode cX10_set 44 = .ok (.iload_n 1, 1) := by decide +kernel
theorem dX10_set_45 : decode cX10_set 45 = .ok (.aaload, 1) := by decide +kernel
theorem dX10_set_46 : decode cX10_set 46 = .ok (.iload_n 2, 1) := by decide +kernel
theorem dX10_set_47 : decode cX10_set 47 = .ok (.aload_n 0, 1) := by decide +kernel
theorem dX10_set_48 : decode cX10_set 48 = .ok (.getfield 13, 3) := by decide +kernel
theorem dX10_set_51 : decode cX10_set 51 = .ok (.iload_n 1, 1) := by decide +kernel
theorem dX10_set_52 : decode cX10_set 52 = .ok (.iaload, 1) := by decide +kernel
theorem dX10_set_53 : decode cX10_set 53 = .ok (.lload_n 3, 1) := by decide +kernel
theorem dX10_set_54 : decode cX10_set 54 = .ok (.invokestatic 118, 3) := by decide +kernel
theorem dX10_set_57 : decode cX10_set 57 = .ok (.lastore, 1) := by decide +kernel
theorem dX10_set_58 : decode cX10_set 58 = .ok (.iconst 1, 1) := by decide +kernel
theorem dX10_set_59 : decode cX10_set 59 = .ok (.ireturn, 1) := by decide +kernel
theorem dX10_copy_0 : decode cX10_copy 0 = .ok (.iload_n 1, 1) := by decide +kernel
theorem dX10_copy_1 : decode cX10_copy 1 = .ok (.i2l, 1) := by decide +kernel
theorem dX10_copy_2 : decode cX10_copy 2 = .ok (.lconst 0, 1) := by decide +kernel
theorem dX10_copy_3 : decode cX10_copy 3 = .ok (.ldc2_w 101, 3) := by decide +kernel
theorem dX10_copy_6 : decode cX10_copy 6 = .ok (.invokestatic 91, 3) := by decide +kernel
theorem dX10_copy_9 : decode cX10_copy 9 = .ok (.ifCond .eq 15, 3) := by decide +kernel
theorem dX10_copy_12 : decode cX10_copy 12 = .ok (.iload_n 2, 1) := by decide +kernel
theorem dX10_copy_13 : decode cX10_copy 13 = .ok (.i2l, 1) := by decide +kernel
theorem dX10_copy_14 : decode cX10_copy 14 = .ok (.lconst 0, 1) := by decide +kernel
theorem dX10_copy_15 : decode cX10_copy 15 = .ok (.ldc2_w 101, 3) := by decide +kernel
theorem dX10_copy_18 : decode cX10_copy 18 = .ok (.invokestatic 91, 3) := by decide +kernel
theorem dX10_copy_21 : decode cX10_copy 21 = .ok (.ifCond .ne 10, 3) := by decide +kernel
theorem dX10_copy_24 : decode cX10_copy 24 = .ok (.aload_n 0, 1) := by decide +kernel
theorem dX10_copy_25 : decode cX10_copy 25 = .ok (.bipush (-2), 2) := by decide +kernel
theorem dX10_copy_27 : decode cX10_copy 27 = .ok (.invokevirtual 107, 3) := by decide +kernel
theorem dX10_copy_30 : decode cX10_copy 30 = .ok (.ireturn, 1) := by decide +kernel
theorem dX10_copy_31 : decode cX10_copy 31 = .ok (.aload_n 0, 1) := by decide +kernel
theorem dX10_copy_32 : decode cX10_copy 32 = .ok (.getfield 7, 3) := by decide +kernel
theorem dX10_copy_35 : decode cX10_copy 35 = .ok (.iload_n 1, 1) := by decide +kernel
theorem dX10_copy_36 : decode cX10_copy 36 = .ok (.iaload, 1) := by decide +kernel
theorem dX10_copy_37 : decode cX10_copy 37 = .ok (.iconst 2, 1) := by decide +kernel
theorem dX10_copy_38 : decode cX10_copy 38 = .ok (.if_icmp .eq 48, 3) := by decide +kernel
theorem dX10_copy_41 : decode cX10_copy 41 = .ok (.aload_n 0, 1) := by decide +kernel
theorem dX10_copy_42 : decode cX10_copy 42 = .ok (.getfield 7, 3) := by decide +kernel
theorem dX10_copy_45 : decode cX10_copy 45 = .ok (.iload_n 2, 1) := by decide +kernel
theorem dX10_copy_46 : decode cX10_copy 46 = .ok (.iaload, 1) := by decide +kernel
theorem dX10_copy_47 : decode cX10_copy 47 = .ok (.iconst 2, 1) := by decide +kernel
theorem dX10_copy_48 : decode cX10_copy 48 = .ok (.if_icmp .eq 38, 3) := by decide +kernel
theorem dX10_copy_51 : decode cX10_copy 51 = .ok (.aload_n 0, 1) := by decide +kernel
theorem dX10_copy_52 : decode cX10_copy 52 = .ok (.getfield 7, 3) := by decide +kernel
theorem dX10_copy_55 : decode cX10_copy 55 = .ok (.iload_n 1, 1) := by decide +kernel
theorem dX10_copy_56 : decode cX10_copy 56 = .ok (.iaload, 1) := by decide +kernel
theorem dX10_copy_57 : decode cX10_copy 57 = .ok (.iconst 1, 1) := by decide +kernel
theorem dX10_copy_58 : decode cX10_copy 58 = .ok (.if_icmp .ne 35, 3) := by decide +kernel
theorem dX10_copy_61 : decode cX10_copy 61 = .ok (.aload_n 0, 1) := by decide +kernel
theorem dX10_copy_62 : decode cX10_copy 62 = .ok (.getfield 7, 3) := by decide +kernel
theorem dX10_copy_65 : decode cX10_copy 65 = .ok (.iload_n 2, 1) := by decide +kernel
theorem dX10_copy_66 : decode cX10_copy 66 = .ok (.iaload, 1) := by decide +kernel
theorem dX10_copy_67 : decode cX10_copy 67 = .ok (.iconst 1, 1) := by decide +kernel
theorem dX10_copy_68 : decode cX10_copy 68 = .ok (.if_icmp .ne 25, 3) := by decide +kernel
theorem dX10_copy_71 : decode cX10_copy 71 = .ok (.aload_n 0, 1) := by decide +kernel
theorem dX10_copy_72 : decode cX10_copy 72 = .ok (.getfield 13, 3) := by decide +kernel
theorem dX10_copy_75 : decode cX10_copy 75 = .ok (.iload_n 1, 1) := by decide +kernel
theorem dX10_copy_76 : decode cX10_copy 76 = .ok (.iaload, 1) := by decide +kernel
theorem dX10_copy_77 : decode cX10_copy 77 = .ok (.aload_n 0, 1) := by decide +kernel
theorem dX10_copy_78 : decode cX10_copy 78 = .ok (.getfield 13, 3) := by decide +kernel
theorem dX10_copy_81 : decode cX10_copy 81 = .ok (.iload_n 2, 1) := by decide +kernel
theorem dX10_copy_82 : decode cX10_copy 82 = .ok (.iaload, 1) := by decide +kernel
theorem dX10_copy_83 : decode cX10_copy 83 = .ok (.if_icmp .eq 10, 3) := by decide +kernel
theorem dX10_copy_86 : decode cX10_copy 86 = .ok (.aload_n 0, 1) := by decide +kernel
theorem dX10_copy_87 : decode cX10_copy 87 = .ok (.bipush (-3), 2) := by decide +kernel
theorem dX10_copy_89 : decode cX10_copy 89 = .ok (.invokevirtual 107, 3) := by decide +kernel
theorem dX10_copy_92 : decode cX10_copy 92 = .ok (.ireturn, 1) := by decide +kernel
theorem dX10_copy_93 : decode cX10_copy 93 = .ok (.aload_n 0, 1) := by decide +kernel
theorem dX10_copy_94 : decode cX10_copy 94 = .ok (.getfield 7, 3) := by decide +kernel
theorem dX10_copy_97 : decode cX10_copy 97 = .ok (.iload_n 1, 1) := by decide +kernel
theorem dX10_copy_98 : decode cX10_copy 98 = .ok (.iaload, 1) := by decide +kernel
theorem dX10_copy_99 : decode cX10_copy 99 = .ok (.ifCond .eq 12, 3) := by decide +kernel
theorem dX10_copy_102 : decode cX10_copy 102 = .ok (.aload_n 0, 1) := by decide +kernel
theorem dX10_copy_103 : decode cX10_copy 103 = .ok (.getfield 7, 3) := by decide +kernel
theorem dX10_copy_106 : decode cX10_copy 106 = .ok (.iload_n 2, 1) := by decide +kernel
theorem dX10_copy_107 : decode cX10_copy 107 = .ok (.iaload, 1) := by decide +kernel
theorem dX10_copy_108 : decode cX10_copy 108 = .ok (.ifCond .ne 10, 3) := by decide +kernel
theorem dX10_copy_111 : decode cX10_copy 111 = .ok (.aload_n 0, 1) := by decide +kernel
theorem dX10_copy_112 : decode cX10_copy 112 = .ok (.bipush (-4), 2) := by decide +kernel
theorem dX10_copy_114 : decode cX10_copy 114 = .ok (.invokevirtual 107, 3) := by decide +kernel
theorem dX10_copy_117 : decode cX10_copy 117 = .ok (.ireturn, 1) := by decide +kernel
theorem dX10_copy_118 : decode cX10_copy 118 = .ok (.iload 5, 2) := by decide +kernel
theorem dX10_copy_120 : decode cX10_copy 120 = .ok (.ifCond .lt 61, 3) := by decide +kernel
theorem dX10_copy_123 : decode cX10_copy 123 = .ok (.iload_n 3, 1) := by decide +kernel
theorem dX10_copy_124 : decode cX10_copy 124 = .ok (.ifCond .lt 57, 3) := by decide +kernel
theorem dX10_copy_127 : decode cX10_copy 127 = .ok (.iload 4, 2) := by decide +kernel
theorem dX10_copy_129 : decode cX10_copy 129 = .ok (.ifCond .lt 52, 3) := by decide +kernel
theorem dX10_copy_132 : decode cX10_copy 132 = .ok (.iload 5, 2) := by decide +kernel
theorem dX10_copy_134 : decode cX10_copy 134 = .ok (.aload_n 0, 1) := by decide +kernel
theorem dX10_copy_135 : decode cX10_copy 135 = .ok (.getfield 16, 3) := by decide +kernel
theorem dX10_copy_138 : decode cX10_copy 138 = .ok (.iload_n 1, 1) := by decide +kernel
theorem dX10_copy_139 : decode cX10_copy 139 = .ok (.iaload, 1) := by decide +kernel
theorem dX10_copy_140 : decode cX10_copy 140 = .ok (.if_icmp .gt 41, 3) := by decide +kernel
theorem dX10_copy_143 : decode cX10_copy 143 = .ok (.iload 5, 2) := by decide +kernel
theorem dX10_copy_145 : decode cX10_copy 145 = .ok (.aload_n 0, 1) := by decide +kernel
theorem dX10_copy_146 : decode cX10_copy 146 = .ok (.getfield 16, 3) := by decide +kernel
theorem dX10_copy_149 : decode cX10_copy 149 = .ok (.iload_n 2, 1) := by decide +kernel
theorem dX10_copy_150 : decode cX10_copy 150 = .ok (.iaload, 1) := by decide +kernel
theorem dX10_copy_151 : decode cX10_copy 151 = .ok (.if_icmp .gt 30, 3) := by decide +kernel
theorem dX10_copy_154 : decode cX10_copy 154 = .ok (.iload_n 3, 1) := by decide +kernel
theorem dX10_copy_155 : decode cX10_copy 155 = .ok (.aload_n 0, 1) := by decide +kernel
theorem dX10_copy_156 : decode cX10_copy 156 = .ok (.getfield 16, 3) := by decide +kernel
theorem dX10_copy_159 : decode cX10_copy 159 = .ok (.iload_n 1, 1) := by decide +kernel
theorem dX10_copy_160 : decode cX10_copy 160 = .ok (.iaload, 1) := by decide +kernel
theorem dX10_copy_161 : decode cX10_copy 161 = .ok (.iload 5, 2) := by decide +kernel
theorem dX10_copy_163 : decode cX10_copy 163 = .ok (.isub, 1) := by decide +kernel
theorem dX10_copy_164 : decode cX10_copy 164 = .ok (.if_icmp .gt 17, 3) := by decide +kernel
theorem dX10_copy_167 : decode cX10_copy 167 = .ok (.iload 4, 2) := by decide +kernel
theorem dX10_copy_169 : decode cX10_copy 169 = .ok (.aload_n 0, 1) := by decide +kernel
theorem dX10_copy_170 : decode cX10_copy 170 = .ok (.getfield 16, 3) := by decide +kernel
theorem dX10_copy_173 : decode cX10_copy 173 = .ok (.iload_n 2, 1) := by decide +kernel
theorem dX10_copy_174 : decode cX10_copy 174 = .ok (.iaload, 1) := by decide +kernel
theorem dX10_copy_175 : decode cX10_copy 175 = .ok (.iload 5, 2) := by decide +kernel
theorem dX10_copy_177 : decode cX10_copy 177 = .ok (.isub, 1) := by decide +kernel
theorem dX10_copy_178 : decode cX10_copy 178 = .ok (.if_icmp .le 10, 3) := by decide +kernel
theorem dX10_copy_181 : decode cX10_copy 181 = .ok (.aload_n 0, 1) := by decide +kernel
theorem dX10_copy_182 : decode cX10_copy 182 = .ok (.bipush (-2), 2) := by decide +kernel
theorem dX10_copy_184 : decode cX10_copy 184 = .ok (.invokevirtual 107, 3) := by decide +kernel
theorem dX10_copy_187 : decode cX10_copy 187 = .ok (.ireturn, 1) := by decide +kernel
theorem dX10_copy_188 : decode cX10_copy 188 = .ok (.iconst 0, 1) := by decide +kernel
theorem dX10_copy_189 : decode cX10_copy 189 = .ok (.istore 6, 2) := by decide +kernel
theorem dX10_copy_191 : decode cX10_copy 191 = .ok (.iload 6, 2) := by decide +kernel
theorem dX10_copy_193 : decode cX10_copy 193 = .ok (.iload 5, 2) := by decide +kernel
theorem dX10_copy_195 : decode cX10_copy 195 = .ok (.if_icmp .ge 27, 3) := by decide +kernel
theorem dX10_copy_198 : decode cX10_copy 198 = .ok (.aload_n 0, 1) := by decide +kernel
theorem dX10_copy_199 : decode cX10_copy 199 = .ok (.getfield 24, 3) := by decide +kernel
theorem dX10_copy_202 : decode cX10_copy 202 = .ok (.iload 6, 2) := by decide +kernel
theorem dX10_copy_204 : decode cX10_copy 204 = .ok (.aload_n 0, 1) := by decide +kernel
theorem dX10_copy_205 : decode cX10_copy 205 = .ok (.getfield 21, 3) := by decide +kernel
theorem dX10_copy_208 : decode cX10_copy 208 = .ok (.iload_n 1, 1) := by decide +kernel
theorem dX10_copy_209 : decode cX10_copy 209 = .ok (.aaload, 1) := by decide +kernel
theorem dX10_copy_210 : decode cX10_copy 210 = .ok (.iload_n 3, 1) := by decide +kernel
theorem dX10_copy_211 : decode cX10_copy 211 = .ok (.iload 6, 2) := by decide +kernel
theorem dX10_copy_213 : decode cX10_copy 213 = .ok (.iadd, 1) := by decide +kernel
theorem dX10_copy_214 : decode cX10_copy 214 = .ok (.laload, 1) := by decide +kernel
theorem dX10_copy_215 : decode cX10_copy 215 = .ok (.lastore, 1) := by decide +kernel
theorem dX10_copy_216 : decode cX10_copy 216 = .ok (.iinc 6 1, 3) := by decide +kernel
theorem dX10_copy_219 : decode cX10_copy 219 = .ok (.goto (-28), 3) := by decide +kernel
theorem dX10_copy_222 : decode cX10_copy 222 = .ok (.iconst 0, 1) := by decide +kernel
theorem dX10_copy_223 : decode cX10_copy 223 = .ok (.istore 6, 2) := by decide +kernel
theorem dX10_copy_225 : decode cX10_copy 225 = .ok (.iload 6, 2) := by decide +kernel
theorem dX10_copy_227 : decode cX10_copy 227 = .ok (.iload 5, 2) := by decide +kernel
theorem dX10_copy_229 : decode cX10_copy 229 = .ok (.if_icmp .ge 28, 3) := by decide +kernel
theorem dX10_copy_232 : decode cX10_copy 232 = .ok (.aload_n 0, 1) := by decide +kernel
theorem dX10_copy_233 : decode cX10_copy 233 = .ok (.getfield 21, 3) := by decide +kernel
theorem dX10_copy_236 : decode cX10_copy 236 = .ok (.iload_n 2, 1) := by decide +kernel
theorem dX10_copy_237 : decode cX10_copy 237 = .ok (.aaload, 1) := by decide +kernel
theorem dX10_copy_238 : decode cX10_copy 238 = .ok (.iload 4, 2) := by decide +kernel
theorem dX10_copy_240 : decode cX10_copy 240 = .ok (.iload 6, 2) := by decide +kernel
theorem dX10_copy_242 : decode cX10_copy 242 = .ok (.iadd, 1) := by decide +kernel
theorem dX10_copy_243 : decode cX10_copy 243 = .ok (.aload_n 0, 1) := by decide +kernel
theorem dX10_copy_244 : decode cX10_copy 244 = .ok (.getfield 24, 3) := by decide +kernel
theorem dX10_copy_247 : decode cX10_copy 247 = .ok (.iload 6, 2) := by decide +kernel
theorem dX10_copy_249 : decode cX10_copy 249 = .ok (.laload, 1) := by decide +kernel
theorem dX10_copy_250 : decode cX10_copy 250 = .ok (.lastore, 1) := by decide +kernel
theorem dX10_copy_251 : decode cX10_copy 251 = .ok (.iinc 6 1, 3) := by decide +kernel
theorem dX10_copy_254 : decode cX10_copy 254 = .ok (.goto (-29), 3) := by decide +kernel
theorem dX10_copy_257 : decode cX10_copy 257 = .ok (.iload 5, 2) := by decide +kernel
theorem dX10_copy_259 : decode cX10_copy 259 = .ok (.ireturn, 1) := by decide +kernel
theorem dX10_element_0 : decode cX10_element 0 = .ok (.iload_n 1, 1) := by decide +kernel
theorem dX10_element_1 : decode cX10_element 1 = .ok (.i2l, 1) := by decide +kernel
theorem dX10_element_2 : decode cX10_element 2 = .ok (.lconst 0, 1) := by decide +kernel
theorem dX10_element_3 : decode cX10_element 3 = .ok (.ldc2_w 101, 3) := by decide +kernel
theorem dX10_element_6 : decode cX10_element 6 = .ok (.invokestatic 91, 3) := by decide +kernel
theorem dX10_element_9 : decode cX10_element 9 = .ok (.ifCond .eq 42, 3) := by decide +kernel
theorem dX10_element_12 : decode cX10_element 12 = .ok (.aload_n 0, 1) := by decide +kernel
theorem dX10_element_13 : decode cX10_element 13 = .ok (.getfield 7, 3) := by decide +kernel
theorem dX10_element_16 : decode cX10_element 16 = .ok (.iload_n 1, 1) := by decide +kernel
theorem dX10_element_17 : decode cX10_element 17 = .ok (.iaload, 1) := by decide +kernel
theorem dX10_element_18 : decode cX10_element 18 = .ok (.iconst 1, 1) := by decide +kernel
theorem dX10_element_19 : decode cX10_element 19 = .ok (.if_icmp .ne 32, 3) := by decide +kernel
theorem dX10_element_22 : decode cX10_element 22 = .ok (.iload_n 2, 1) := by decide +kernel
theorem dX10_element_23 : decode cX10_element 23 = .ok (.i2l, 1) := by decide +kernel
theorem dX10_element_24 : decode cX10_element 24 = .ok (.lconst 0, 1) := by decide +kernel
theorem dX10_element_25 : decode cX10_element 25 = .ok (.aload_n 0, 1) := by decide +kernel
theorem dX10_element_26 : decode cX10_element 26 = .ok (.getfield 16, 3) := by decide +kernel
theorem dX10_element_29 : decode cX10_element 29 = .ok (.iload_n 1, 1) := by decide +kernel
theorem dX10_element_30 : decode cX10_element 30 = .ok (.iaload, 1) := by decide +kernel
theorem dX10_element_31 : decode cX10_element 31 = .ok (.iconst 1, 1) := by decide +kernel
theorem dX10_element_32 : decode cX10_element 32 = .ok (.isub, 1) := by decide +kernel
theorem dX10_element_33 : decode cX10_element 33 = .ok (.i2l, 1) := by decide +kernel
theorem dX10_element_34 : decode cX10_element 34 = .ok (.invokestatic 91, 3) := by decide +kernel
theorem dX10_element_37 : decode cX10_element 37 = .ok (.ifCond .eq 14, 3) := by decide +kernel
theorem dX10_element_40 : decode cX10_element 40 = .ok (.aload_n 0, 1) := by decide +kernel
theorem dX10_element_41 : decode cX10_element 41 = .ok (.getfield 21, 3) := by decide +kernel
theorem dX10_element_44 : decode cX10_element 44 = .ok (.iload_n 1, 1) := by decide +kernel
theorem dX10_element_45 : decode cX10_element 45 = .ok (.aaload, 1) := by decide +kernel
theorem dX10_element_46 : decode cX10_element 46 = .ok (.iload_n 2, 1) := by decide +kernel
theorem dX10_element_47 : decode cX10_element 47 = .ok (.laload, 1) := by decide +kernel
theorem dX10_element_48 : decode cX10_element 48 = .ok (.goto 4, 3) := by decide +kernel
theorem dX10_element_51 : decode cX10_element 51 = .ok (.lconst 0, 1) := by decide +kernel
theorem dX10_element_52 : decode cX10_element 52 = .ok (.lreturn, 1) := by decide +kernel
theorem dX10_holds_0 : decode cX10_holds 0 = .ok (.iload_n 1, 1) := by decide +kernel
theorem dX10_holds_1 : decode cX10_holds 1 = .ok (.i2l, 1) := by decide +kernel
theorem dX10_holds_2 : decode cX10_holds 2 = .ok (.lconst 0, 1) := by decide +kernel
theorem dX10_holds_3 : decode cX10_holds 3 = .ok (.ldc2_w 101, 3) := by decide +kernel
theorem dX10_holds_6 : decode cX10_holds 6 = .ok (.invokestatic 91, 3) := by decide +kernel
theorem dX10_holds_9 : decode cX10_holds 9 = .ok (.ifCond .eq 12, 3) := by decide +kernel
theorem dX10_holds_12 : decode cX10_holds 12 = .ok (.aload_n 0, 1) := by decide +kernel
theorem dX10_holds_13 : decode cX10_holds 13 = .ok (.getfield 7, 3) := by decide +kernel
theorem dX10_holds_16 : decode cX10_holds 16 = .ok (.iload_n 1, 1) := by decide +kernel
theorem dX10_holds_17 : decode cX10_holds 17 = .ok (.iaload, 1) := by decide +kernel
theorem dX10_holds_18 : decode cX10_holds 18 = .ok (.ifCond .ne 5, 3) := by decide +kernel
theorem dX10_holds_21 : decode cX10_holds 21 = .ok (.iconst (-1), 1) := by decide +kernel
theorem dX10_holds_22 : decode cX10_holds 22 = .ok (.ireturn, 1) := by decide +kernel
theorem dX10_holds_23 : decode cX10_holds 23 = .ok (.aload_n 0, 1) := by decide +kernel
theorem dX10_holds_24 : decode cX10_holds 24 = .ok (.getfield 7, 3) := by decide +kernel
theorem dX10_holds_27 : decode cX10_holds 27 = .ok (.iload_n 1, 1) := by decide +kernel
theorem dX10_holds_28 : decode cX10_holds 28 = .ok (.iaload, 1) := by decide +kernel
theorem dX10_holds_29 : decode cX10_holds 29 = .ok (.iconst 1, 1) := by decide +kernel
theorem dX10_holds_30 : decode cX10_holds 30 = .ok (.if_icmp .ne 12, 3) := by decide +kernel
theorem dX10_holds_33 : decode cX10_holds 33 = .ok (.aload_n 0, 1) := by decide +kernel
theorem dX10_holds_34 : decode cX10_holds 34 = .ok (.getfield 13, 3) := by decide +kernel
theorem dX10_holds_37 : decode cX10_holds 37 = .ok (.iload_n 1, 1) := by decide +kernel
theorem dX10_holds_38 : decode cX10_holds 38 = .ok (.iaload, 1) := by decide +kernel
theorem dX10_holds_39 : decode cX10_holds 39 = .ok (.goto 12, 3) := by decide +kernel
theorem dX10_holds_42 : decode cX10_holds 42 = .ok (.bipush 10, 2) := by decide +kernel
theorem dX10_holds_44 : decode cX10_holds 44 = .ok (.aload_n 0, 1) := by decide +kernel
theorem dX10_holds_45 : decode cX10_holds 45 = .ok (.getfield 28, 3) := by decide +kernel
theorem dX10_holds_48 : decode cX10_holds 48 = .ok (.iload_n 1, 1) := by decide +kernel
theorem dX10_holds_49 : decode cX10_holds 49 = .ok (.iaload, 1) := by decide +kernel
theorem dX10_holds_50 : decode cX10_holds 50 = .ok (.iadd, 1) := by decide +kernel
theorem dX10_holds_51 : decode cX10_holds 51 = .ok (.ireturn, 1) := by decide +kernel
theorem dX10_show_0 : decode cX10_show 0 = .ok (.iload_n 1, 1) := by decide +kernel
theorem dX10_show_1 : decode cX10_show 1 = .ok (.i2l, 1) := by decide +kernel
theorem dX10_show_2 : decode cX10_show 2 = .ok (.lconst 0, 1) := by decide +kernel
theorem dX10_show_3 : decode cX10_show 3 = .ok (.ldc2_w 101, 3) := by decide +kernel
theorem dX10_show_6 : decode cX10_show 6 = .ok (.invokestatic 91, 3) := by decide +kernel
theorem dX10_show_9 : decode cX10_show 9 = .ok (.ifCond .eq 16, 3) := by decide +kernel
theorem dX10_show_12 : decode cX10_show 12 = .ok (.iload_n 2, 1) := by decide +kernel
theorem dX10_show_13 : decode cX10_show 13 = .ok (.iconst (-1), 1) := by decide +kernel
theorem dX10_show_14 : decode cX10_show 14 = .ok (.if_icmp .eq 18, 3) := by decide +kernel
theorem dX10_show_17 : decode cX10_show 17 = .ok (.aload_n 0, 1) := by decide +kernel
theorem dX10_show_18 : decode cX10_show 18 = .ok (.iload_n 2, 1) := by decide +kernel
theorem dX10_show_19 : decode cX10_show 19 = .ok (.invokevirtual 122, 3) := by decide +kernel
theorem dX10_show_22 : decode cX10_show 22 = .ok (.ifCond .ne 10, 3) := by decide +kernel
theorem dX10_show_25 : decode cX10_show 25 = .ok (.aload_n 0, 1) := by decide +kernel
theorem dX10_show_26 : decode cX10_show 26 = .ok (.bipush (-2), 2) := by decide +kernel
theorem dX10_show_28 : decode cX10_show 28 = .ok (.invokevirtual 107, 3) := by decide +kernel
theorem dX10_show_31 : decode cX10_show 31 = .ok (.ireturn, 1) := by decide +kernel
theorem dX10_show_32 : decode cX10_show 32 = .ok (.aload_n 0, 1) := by decide +kernel
theorem dX10_show_33 : decode cX10_show 33 = .ok (.getfield 7, 3) := by decide +kernel
theorem dX10_show_36 : decode cX10_show 36 = .ok (.iload_n 1, 1) := by decide +kernel
theorem dX10_show_37 : decode cX10_show 37 = .ok (.iload_n 2, 1) := by decide +kernel
theorem dX10_show_38 : decode cX10_show 38 = .ok (.iconst (-1), 1) := by decide +kernel
theorem dX10_show_39 : decode cX10_show 39 = .ok (.if_icmp .ne 7, 3) := by decide +kernel
theorem dX10_show_42 : decode cX10_show 42 = .ok (.iconst 0, 1) := by decide +kernel
theorem dX10_show_43 : decode cX10_show 43 = .ok (.goto 4, 3) := by decide +kernel
theorem dX10_show_46 : decode cX10_show 46 = .ok (.iconst 2, 1) := by decide +kernel
theorem dX10_show_47 : decode cX10_show 47 = .ok (.iastore, 1) := by decide +kernel
theorem dX10_show_48 : decode cX10_show 48 = .ok (.aload_n 0, 1) := by decide +kernel
theorem dX10_show_49 : decode cX10_show 49 = .ok (.getfield 28, 3) := by decide +kernel
theorem dX10_show_52 : decode cX10_show 52 = .ok (.iload_n 1, 1) := by decide +kernel
theorem dX10_show_53 : decode cX10_show 53 = .ok (.iload_n 2, 1) := by decide +kernel
theorem dX10_show_54 : decode cX10_show 54 = .ok (.iastore, 1) := by decide +kernel
theorem dX10_show_55 : decode cX10_show 55 = .ok (.iconst 1, 1) := by decide +kernel
theorem dX10_show_56 : decode cX10_show 56 = .ok (.ireturn, 1) := by decide +kernel
theorem dX10_isUnder_0 : decode cX10_isUnder 0 = .ok (.iload_n 1, 1) := by decide +kernel
theorem dX10_isUnder_1 : decode cX10_isUnder 1 = .ok (.ifCond .eq 28, 3) := by decide +kernel
theorem dX10_isUnder_4 : decode cX10_isUnder 4 = .ok (.iload_n 0, 1) := by decide +kernel
theorem dX10_isUnder_5 : decode cX10_isUnder 5 = .ok (.iload_n 1, 1) := by decide +kernel
theorem dX10_isUnder_6 : decode cX10_isUnder 6 = .ok (.if_icmp .eq 23, 3) := by decide +kernel
theorem dX10_isUnder_9 : decode cX10_isUnder 9 = .ok (.iload_n 1, 1) := by decide +kernel
theorem dX10_isUnder_10 : decode cX10_isUnder 10 = .ok (.iconst 1, 1) := by decide +kernel
theorem dX10_isUnder_11 : decode cX10_isUnder 11 = .ok (.if_icmp .ne 8, 3) := by decide +kernel
theorem dX10_isUnder_14 : decode cX10_isUnder 14 = .ok (.iload_n 0, 1) := by decide +kernel
theorem dX10_isUnder_15 : decode cX10_isUnder 15 = .ok (.iconst 3, 1) := by decide +kernel
theorem dX10_isUnder_16 : decode cX10_isUnder 16 = .ok (.if_icmp .eq 13, 3) := by decide +kernel
theorem dX10_isUnder_19 : decode cX10_isUnder 19 = .ok (.iload_n 1, 1) := by decide +kernel
theorem dX10_isUnder_20 : decode cX10_isUnder 20 = .ok (.iconst 2, 1) := by decide +kernel
theorem dX10_isUnder_21 : decode cX10_isUnder 21 = .ok (.if_icmp .ne 12, 3) := by decide +kernel
theorem dX10_isUnder_24 : decode cX10_isUnder 24 = .ok (.iload_n 0, 1) := by decide +kernel
theorem dX10_isUnder_25 : decode cX10_isUnder 25 = .ok (.iconst 4, 1) := by decide +kernel
theorem dX10_isUnder_26 : decode cX10_isUnder 26 = .ok (.if_icmp .ne 7, 3) := by decide +kernel
theorem dX10_isUnder_29 : decode cX10_isUnder 29 = .ok (.iconst 1, 1) := by decide +kernel
theorem dX10_isUnder_30 : decode cX10_isUnder 30 = .ok (.goto 4, 3) := by decide +kernel
theorem dX10_isUnder_33 : decode cX10_isUnder 33 = .ok (.iconst 0, 1) := by decide +kernel
theorem dX10_isUnder_34 : decode cX10_isUnder 34 = .ok (.ireturn, 1) := by decide +kernel
theorem dX10_says_0 : decode cX10_says 0 = .ok (.iload_n 1, 1) := by decide +kernel
theorem dX10_says_1 : decode cX10_says 1 = .ok (.i2l, 1) := by decide +kernel
theorem dX10_says_2 : decode cX10_says 2 = .ok (.lconst 0, 1) := by decide +kernel
theorem dX10_says_3 : decode cX10_says 3 = .ok (.ldc2_w 101, 3) := by decide +kernel
theorem dX10_says_6 : decode cX10_says 6 = .ok (.invokestatic 91, 3) := by decide +kernel
theorem dX10_says_9 : decode cX10_says 9 = .ok (.ifCond .eq 15, 3) := by decide +kernel
theorem dX10_says_12 : decode cX10_says 12 = .ok (.iload_n 2, 1) := by decide +kernel
theorem dX10_says_13 : decode cX10_says 13 = .ok (.i2l, 1) := by decide +kernel
theorem dX10_says_14 : decode cX10_says 14 = .ok (.lconst 0, 1) := by decide +kernel
theorem dX10_says_15 : decode cX10_says 15 = .ok (.ldc2_w 126, 3) := by decide +kernel
theorem dX10_says_18 : decode cX10_says 18 = .ok (.invokestatic 91, 3) := by decide +kernel
theorem dX10_says_21 : decode cX10_says 21 = .ok (.ifCond .ne 10, 3) := by decide +kernel
theorem dX10_says_24 : decode cX10_says 24 = .ok (.aload_n 0, 1) := by decide +kernel
theorem dX10_says_25 : decode cX10_says 25 = .ok (.bipush (-2), 2) := by decide +kernel
theorem dX10_says_27 : decode cX10_says 27 = .ok (.invokevirtual 107, 3) := by decide +kernel
theorem dX10_says_30 : decode cX10_says 30 = .ok (.ireturn, 1) := by decide +kernel
theorem dX10_says_31 : decode cX10_says 31 = .ok (.aload_n 0, 1) := by decide +kernel
theorem dX10_says_32 : decode cX10_says 32 = .ok (.getfield 7, 3) := by decide +kernel
theorem dX10_says_35 : decode cX10_says 35 = .ok (.iload_n 1, 1) := by decide +kernel
theorem dX10_says_36 : decode cX10_says 36 = .ok (.iaload, 1) := by decide +kernel
theorem dX10_says_37 : decode cX10_says 37 = .ok (.iconst 1, 1) := by decide +kernel
theorem dX10_says_38 : decode cX10_says 38 = .ok (.if_icmp .eq 31, 3) := by decide +kernel
theorem dX10_says_41 : decode cX10_says 41 = .ok (.aload_n 0, 1) := by decide +kernel
theorem dX10_says_42 : decode cX10_says 42 = .ok (.getfield 7, 3) := by decide +kernel
theorem dX10_says_45 : decode cX10_says 45 = .ok (.iload_n 1, 1) := by decide +kernel
theorem dX10_says_46 : decode cX10_says 46 = .ok (.iaload, 1) := by decide +kernel
theorem dX10_says_47 : decode cX10_says 47 = .ok (.iconst 2, 1) := by decide +kernel
theorem dX10_says_48 : decode cX10_says 48 = .ok (.if_icmp .ne 28, 3) := by decide +kernel
theorem dX10_says_51 : decode cX10_says 51 = .ok (.aload_n 0, 1) := by decide +kernel
theorem dX10_says_52 : decode cX10_says 52 = .ok (.getfield 51, 3) := by decide +kernel
theorem dX10_says_55 : decode cX10_says 55 = .ok (.aload_n 0, 1) := by decide +kernel
theorem dX10_says_56 : decode cX10_says 56 = .ok (.getfield 28, 3) := by decide +kernel
theorem dX10_says_59 : decode cX10_says 59 = .ok (.iload_n 1, 1) := by decide +kernel
theorem dX10_says_60 : decode cX10_says 60 = .ok (.iaload, 1) := by decide +kernel
theorem dX10_says_61 : decode cX10_says 61 = .ok (.iaload, 1) := by decide +kernel
theorem dX10_says_62 : decode cX10_says 62 = .ok (.iload_n 2, 1) := by decide +kernel
theorem dX10_says_63 : decode cX10_says 63 = .ok (.invokestatic 128, 3) := by decide +kernel
theorem dX10_says_66 : decode cX10_says 66 = .ok (.ifCond .ne 10, 3) := by decide +kernel
theorem dX10_says_69 : decode cX10_says 69 = .ok (.aload_n 0, 1) := by decide +kernel
theorem dX10_says_70 : decode cX10_says 70 = .ok (.bipush (-3), 2) := by decide +kernel
theorem dX10_says_72 : decode cX10_says 72 = .ok (.invokevirtual 107, 3) := by decide +kernel
theorem dX10_says_75 : decode cX10_says 75 = .ok (.ireturn, 1) := by decide +kernel
theorem dX10_says_76 : decode cX10_says 76 = .ok (.aload_n 0, 1) := by decide +kernel
theorem dX10_says_77 : decode cX10_says 77 = .ok (.getfield 7, 3) := by decide +kernel
theorem dX10_says_80 : decode cX10_says 80 = .ok (.iload_n 1, 1) := by decide +kernel
theorem dX10_says_81 : decode cX10_says 81 = .ok (.iaload, 1) := by decide +kernel
theorem dX10_says_82 : decode cX10_says 82 = .ok (.ifCond .ne 10, 3) := by decide +kernel
theorem dX10_says_85 : decode cX10_says 85 = .ok (.aload_n 0, 1) := by decide +kernel
theorem dX10_says_86 : decode cX10_says 86 = .ok (.bipush (-4), 2) := by decide +kernel
theorem dX10_says_88 : decode cX10_says 88 = .ok (.invokevirtual 107, 3) := by decide +kernel
theorem dX10_says_91 : decode cX10_says 91 = .ok (.ireturn, 1) := by decide +kernel
theorem dX10_says_92 : decode cX10_says 92 = .ok (.aload_n 0, 1) := by decide +kernel
theorem dX10_says_93 : decode cX10_says 93 = .ok (.getfield 28, 3) := by decide +kernel
theorem dX10_says_96 : decode cX10_says 96 = .ok (.iload_n 1, 1) := by decide +kernel
theorem dX10_says_97 : decode cX10_says 97 = .ok (.iaload, 1) := by decide +kernel
theorem dX10_says_98 : decode cX10_says 98 = .ok (.istore_n 3, 1) := by decide +kernel
theorem dX10_says_99 : decode cX10_says 99 = .ok (.iconst 0, 1) := by decide +kernel
theorem dX10_says_100 : decode cX10_says 100 = .ok (.istore 4, 2) := by decide +kernel
theorem dX10_says_102 : decode cX10_says 102 = .ok (.iload_n 2, 1) := by decide +kernel
theorem dX10_says_103 : decode cX10_says 103 = .ok (.tableswitch 42 0 4 #[33, 42, 40, 42, 40], 33) := by decide +kernel
theorem dX10_says_136 : decode cX10_says 136 = .ok (.aload_n 0, 1) := by decide +kernel
theorem dX10_says_137 : decode cX10_says 137 = .ok (.getfield 54, 3) := by decide +kernel
theorem dX10_says_140 : decode cX10_says 140 = .ok (.iload_n 3, 1) := by decide +kernel
theorem dX10_says_141 : decode cX10_says 141 = .ok (.iaload, 1) := by decide +kernel
theorem dX10_says_142 : decode cX10_says 142 = .ok (.ireturn, 1) := by decide +kernel
theorem dX10_says_143 : decode cX10_says 143 = .ok (.iconst 3, 1) := by decide +kernel
theorem dX10_says_144 : decode cX10_says 144 = .ok (.ireturn, 1) := by decide +kernel
theorem dX10_says_145 : decode cX10_says 145 = .ok (.iconst 0, 1) := by decide +kernel
theorem dX10_says_146 : decode cX10_says 146 = .ok (.istore 5, 2) := by decide +kernel
theorem dX10_says_148 : decode cX10_says 148 = .ok (.iload 5, 2) := by decide +kernel
theorem dX10_says_150 : decode cX10_says 150 = .ok (.bipush 8, 2) := by decide +kernel
theorem dX10_says_152 : decode cX10_says 152 = .ok (.if_icmp .ge 63, 3) := by decide +kernel
theorem dX10_says_155 : decode cX10_says 155 = .ok (.iload_n 2, 1) := by decide +kernel
theorem dX10_says_156 : decode cX10_says 156 = .ok (.iconst 5, 1) := by decide +kernel
theorem dX10_says_157 : decode cX10_says 157 = .ok (.if_icmp .ne 26, 3) := by decide +kernel
theorem dX10_says_160 : decode cX10_says 160 = .ok (.iload 5, 2) := by decide +kernel
theorem dX10_says_162 : decode cX10_says 162 = .ok (.ifCond .le 17, 3) := by decide +kernel
theorem dX10_says_165 : decode cX10_says 165 = .ok (.aload_n 0, 1) := by decide +kernel
theorem dX10_says_166 : decode cX10_says 166 = .ok (.iload_n 3, 1) := by decide +kernel
theorem dX10_says_167 : decode cX10_says 167 = .ok (.iload 5, 2) := by decide +kernel
theorem dX10_says_169 : decode cX10_says 169 = .ok (.invokevirtual 132, 3) := by decide +kernel
theorem dX10_says_172 : decode cX10_says 172 = .ok (.ifCond .eq 7, 3) := by decide +kernel
theorem dX10_says_175 : decode cX10_says 175 = .ok (.iconst 1, 1) := by decide +kernel
theorem dX10_says_176 : decode cX10_says 176 = .ok (.goto 16, 3) := by decide +kernel
theorem dX10_says_179 : decode cX10_says 179 = .ok (.iconst 0, 1) := by decide +kernel
theorem dX10_says_180 : decode cX10_says 180 = .ok (.goto 12, 3) := by decide +kernel
theorem dX10_says_183 : decode cX10_says 183 = .ok (.aload_n 0, 1) := by decide +kernel
theorem dX10_says_184 : decode cX10_says 184 = .ok (.iload_n 3, 1) := by decide +kernel
theorem dX10_says_185 : decode cX10_says 185 = .ok (.bipush 8, 2) := by decide +kernel
theorem dX10_says_187 : decode cX10_says 187 = .ok (.iload 5, 2) := by decide +kernel
theorem dX10_says_189 : decode cX10_says 189 = .ok (.invokevirtual 135, 3) := by decide +kernel
theorem dX10_says_192 : decode cX10_says 192 = .ok (.istore 6, 2) := by decide +kernel
theorem dX10_says_194 : decode cX10_says 194 = .ok (.iload 4, 2) := by decide +kernel
theorem dX10_says_196 : decode cX10_says 196 = .ok (.iload 6, 2) := by decide +kernel
theorem dX10_says_198 : decode cX10_says 198 = .ok (.ifCond .eq 7, 3) := by decide +kernel
theorem dX10_says_201 : decode cX10_says 201 = .ok (.iconst 1, 1) := by decide +kernel
theorem dX10_says_202 : decode cX10_says 202 = .ok (.goto 4, 3) := by decide +kernel
theorem dX10_says_205 : decode cX10_says 205 = .ok (.iconst 0, 1) := by decide +kernel
theorem dX10_says_206 : decode cX10_says 206 = .ok (.iadd, 1) := by decide +kernel
theorem dX10_says_207 : decode cX10_says 207 = .ok (.istore 4, 2) := by decide +kernel
theorem dX10_says_209 : decode cX10_says 209 = .ok (.iinc 5 1, 3) := by decide +kernel
theorem dX10_says_212 : decode cX10_says 212 = .ok (.goto (-64), 3) := by decide +kernel
theorem dX10_says_215 : decode cX10_says 215 = .ok (.iload 4, 2) := by decide +kernel
theorem dX10_says_217 : decode cX10_says 217 = .ok (.ireturn, 1) := by decide +kernel
theorem dX10_addCall_0 : decode cX10_addCall 0 = .ok (.aload_n 0, 1) := by decide +kernel
theorem dX10_addCall_1 : decode cX10_addCall 1 = .ok (.getfield 42, 3) := by decide +kernel
theorem dX10_addCall_4 : decode cX10_addCall 4 = .ok (.aload_n 0, 1) := by decide +kernel
theorem dX10_addCall_5 : decode cX10_addCall 5 = .ok (.getfield 88, 3) := by decide +kernel
theorem dX10_addCall_8 : decode cX10_addCall 8 = .ok (.iload_n 1, 1) := by decide +kernel
theorem dX10_addCall_9 : decode cX10_addCall 9 = .ok (.iastore, 1) := by decide +kernel
theorem dX10_addCall_10 : decode cX10_addCall 10 = .ok (.aload_n 0, 1) := by decide +kernel
theorem dX10_addCall_11 : decode cX10_addCall 11 = .ok (.getfield 45, 3) := by decide +kernel
theorem dX10_addCall_14 : decode cX10_addCall 14 = .ok (.aload_n 0, 1) := by decide +kernel
theorem dX10_addCall_15 : decode cX10_addCall 15 = .ok (.getfield 88, 3) := by decide +kernel
theorem dX10_addCall_18 : decode cX10_addCall 18 = .ok (.iload_n 2, 1) := by decide +kernel
theorem dX10_addCall_19 : decode cX10_addCall 19 = .ok (.iastore, 1) := by decide +kernel
theorem dX10_addCall_20 : decode cX10_addCall 20 = .ok (.aload_n 0, 1) := by decide +kernel
theorem dX10_addCall_21 : decode cX10_addCall 21 = .ok (.getfield 48, 3) := by decide +kernel
theorem dX10_addCall_24 : decode cX10_addCall 24 = .ok (.aload_n 0, 1) := by decide +kernel
theorem dX10_addCall_25 : decode cX10_addCall 25 = .ok (.getfield 88, 3) := by decide +kernel
theorem dX10_addCall_28 : decode cX10_addCall 28 = .ok (.iload_n 3, 1) := by decide +kernel
theorem dX10_addCall_29 : decode cX10_addCall 29 = .ok (.iastore, 1) := by decide +kernel
theorem dX10_addCall_30 : decode cX10_addCall 30 = .ok (.aload_n 0, 1) := by decide +kernel
theorem dX10_addCall_31 : decode cX10_addCall 31 = .ok (.dup, 1) := by decide +kernel
theorem dX10_addCall_32 : decode cX10_addCall 32 = .ok (.getfield 88, 3) := by decide +kernel
theorem dX10_addCall_35 : decode cX10_addCall 35 = .ok (.iconst 1, 1) := by decide +kernel
theorem dX10_addCall_36 : decode cX10_addCall 36 = .ok (.iadd, 1) := by decide +kernel
theorem dX10_addCall_37 : decode cX10_addCall 37 = .ok (.putfield 88, 3) := by decide +kernel
theorem dX10_addCall_40 : decode cX10_addCall 40 = .ok (.return_, 1) := by decide +kernel
theorem dX10_call_0 : decode cX10_call 0 = .ok (.iload_n 1, 1) := by decide +kernel
theorem dX10_call_1 : decode cX10_call 1 = .ok (.i2l, 1) := by decide +kernel
theorem dX10_call_2 : decode cX10_call 2 = .ok (.lconst 0, 1) := by decide +kernel
theorem dX10_call_3 : decode cX10_call 3 = .ok (.ldc2_w 101, 3) := by decide +kernel
theorem dX10_call_6 : decode cX10_call 6 = .ok (.invokestatic 91, 3) := by decide +kernel
theorem dX10_call_9 : decode cX10_call 9 = .ok (.ifCond .eq 40, 3) := by decide +kernel
theorem dX10_call_12 : decode cX10_call 12 = .ok (.iload_n 2, 1) := by decide +kernel
theorem dX10_call_13 : decode cX10_call 13 = .ok (.i2l, 1) := by decide +kernel
theorem dX10_call_14 : decode cX10_call 14 = .ok (.lconst 1, 1) := by decide +kernel
theorem dX10_call_15 : decode cX10_call 15 = .ok (.ldc2_w 139, 3) := by decide +kernel
theorem dX10_call_18 : decode cX10_call 18 = .ok (.invokestatic 91, 3) := by decide +kernel
theorem dX10_call_21 : decode cX10_call 21 = .ok (.ifCond .eq 28, 3) := by decide +kernel
theorem dX10_call_24 : decode cX10_call 24 = .ok (.iload_n 3, 1) := by decide +kernel
theorem dX10_call_25 : decode cX10_call 25 = .ok (.i2l, 1) := by decide +kernel
theorem dX10_call_26 : decode cX10_call 26 = .ok (.lconst 1, 1) := by decide +kernel
theorem dX10_call_27 : decode cX10_call 27 = .ok (.ldc2_w 141, 3) := by decide +kernel
theorem dX10_call_30 : decode cX10_call 30 = .ok (.invokestatic 91, 3) := by decide +kernel
theorem dX10_call_33 : decode cX10_call 33 = .ok (.ifCond .eq 16, 3) := by decide +kernel
theorem dX10_call_36 : decode cX10_call 36 = .ok (.iload 4, 2) := by decide +kernel
theorem dX10_call_38 : decode cX10_call 38 = .ok (.i2l, 1) := by decide +kernel
theorem dX10_call_39 : decode cX10_call 39 = .ok (.lconst 0, 1) := by decide +kernel
theorem dX10_call_40 : decode cX10_call 40 = .ok (.ldc2_w 141, 3) := by decide +kernel
theorem dX10_call_43 : decode cX10_call 43 = .ok (.invokestatic 91, 3) := by decide +kernel
theorem dX10_call_46 : decode cX10_call 46 = .ok (.ifCond .ne 10, 3) := by decide +kernel
theorem dX10_call_49 : decode cX10_call 49 = .ok (.aload_n 0, 1) := by decide +kernel
theorem dX10_call_50 : decode cX10_call 50 = .ok (.bipush (-2), 2) := by decide +kernel
theorem dX10_call_52 : decode cX10_call 52 = .ok (.invokevirtual 107, 3) := by decide +kernel
theorem dX10_call_55 : decode cX10_call 55 = .ok (.ireturn, 1) := by decide +kernel
theorem dX10_call_56 : decode cX10_call 56 = .ok (.aload_n 0, 1) := by decide +kernel
theorem dX10_call_57 : decode cX10_call 57 = .ok (.iload_n 1, 1) := by decide +kernel
theorem dX10_call_58 : decode cX10_call 58 = .ok (.invokevirtual 115, 3) := by decide +kernel
theorem dX10_call_61 : decode cX10_call 61 = .ok (.istore 5, 2) := by decide +kernel
theorem dX10_call_63 : decode cX10_call 63 = .ok (.iload 5, 2) := by decide +kernel
theorem dX10_call_65 : decode cX10_call 65 = .ok (.ifCond .eq 6, 3) := by decide +kernel
theorem dX10_call_68 : decode cX10_call 68 = .ok (.iload 5, 2) := by decide +kernel
theorem dX10_call_70 : decode cX10_call 70 = .ok (.ireturn, 1) := by decide +kernel
theorem dX10_call_71 : decode cX10_call 71 = .ok (.aload_n 0, 1) := by decide +kernel
theorem dX10_call_72 : decode cX10_call 72 = .ok (.getfield 16, 3) := by decide +kernel
theorem dX10_call_75 : decode cX10_call 75 = .ok (.iload_n 1, 1) := by decide +kernel
theorem dX10_call_76 : decode cX10_call 76 = .ok (.iaload, 1) := by decide +kernel
theorem dX10_call_77 : decode cX10_call 77 = .ok (.iload_n 2, 1) := by decide +kernel
theorem dX10_call_78 : decode cX10_call 78 = .ok (.if_icmp .ge 10, 3) := by decide +kernel
theorem dX10_call_81 : decode cX10_call 81 = .ok (.aload_n 0, 1) := by decide +kernel
theorem dX10_call_82 : decode cX10_call 82 = .ok (.bipush (-2), 2) := by decide +kernel
theorem dX10_call_84 : decode cX10_call 84 = .ok (.invokevirtual 107, 3) := by decide +kernel
theorem dX10_call_87 : decode cX10_call 87 = .ok (.ireturn, 1) := by decide +kernel
theorem dX10_call_88 : decode cX10_call 88 = .ok (.iconst 0, 1) := by decide +kernel
theorem dX10_call_89 : decode cX10_call 89 = .ok (.istore 6, 2) := by decide +kernel
theorem dX10_call_91 : decode cX10_call 91 = .ok (.iload 6, 2) := by decide +kernel
theorem dX10_call_93 : decode cX10_call 93 = .ok (.iload_n 2, 1) := by decide +kernel
theorem dX10_call_94 : decode cX10_call 94 = .ok (.if_icmp .ge 35, 3) := by decide +kernel
theorem dX10_call_97 : decode cX10_call 97 = .ok (.aload_n 0, 1) := by decide +kernel
theorem dX10_call_98 : decode cX10_call 98 = .ok (.getfield 21, 3) := by decide +kernel
theorem dX10_call_101 : decode cX10_call 101 = .ok (.iload_n 1, 1) := by decide +kernel
theorem dX10_call_102 : decode cX10_call 102 = .ok (.aaload, 1) := by decide +kernel
theorem dX10_call_103 : decode cX10_call 103 = .ok (.iload 6, 2) := by decide +kernel
theorem dX10_call_105 : decode cX10_call 105 = .ok (.laload, 1) := by decide +kernel
theorem dX10_call_106 : decode cX10_call 106 = .ok (.lconst 0, 1) := by decide +kernel
theorem dX10_call_107 : decode cX10_call 107 = .ok (.ldc2_w 103, 3) := by decide +kernel
theorem dX10_call_110 : decode cX10_call 110 = .ok (.invokestatic 91, 3) := by decide +kernel
theorem dX10_call_113 : decode cX10_call 113 = .ok (.ifCond .ne 10, 3) := by decide +kernel
theorem dX10_call_116 : decode cX10_call 116 = .ok (.aload_n 0, 1) := by decide +kernel
theorem dX10_call_117 : decode cX10_call 117 = .ok (.bipush (-2), 2) := by decide +kernel
theorem dX10_call_119 : decode cX10_call 119 = .ok (.invokevirtual 107, 3) := by decide +kernel
theorem dX10_call_122 : decode cX10_call 122 = .ok (.ireturn, 1) := by decide +kernel
theorem dX10_call_123 : decode cX10_call 123 = .ok (.iinc 6 1, 3) := by decide +kernel
theorem dX10_call_126 : decode cX10_call 126 = .ok (.goto (-35), 3) := by decide +kernel
theorem dX10_call_129 : decode cX10_call 129 = .ok (.aload_n 0, 1) := by decide +kernel
theorem dX10_call_130 : decode cX10_call 130 = .ok (.getfield 88, 3) := by decide +kernel
theorem dX10_call_133 : decode cX10_call 133 = .ok (.bipush 12, 2) := by decide +kernel
theorem dX10_call_135 : decode cX10_call 135 = .ok (.if_icmp .ne 10, 3) := by decide +kernel
theorem dX10_call_138 : decode cX10_call 138 = .ok (.aload_n 0, 1) := by decide +kernel
theorem dX10_call_139 : decode cX10_call 139 = .ok (.bipush (-6), 2) := by decide +kernel
theorem dX10_call_141 : decode cX10_call 141 = .ok (.invokevirtual 107, 3) := by decide +kernel
theorem dX10_call_144 : decode cX10_call 144 = .ok (.ireturn, 1) := by decide +kernel
theorem dX10_call_145 : decode cX10_call 145 = .ok (.iconst 0, 1) := by decide +kernel
theorem dX10_call_146 : decode cX10_call 146 = .ok (.istore 6, 2) := by decide +kernel
theorem dX10_call_148 : decode cX10_call 148 = .ok (.iload 6, 2) := by decide +kernel
theorem dX10_call_150 : decode cX10_call 150 = .ok (.iload_n 2, 1) := by decide +kernel
theorem dX10_call_151 : decode cX10_call 151 = .ok (.if_icmp .ge 31, 3) := by decide +kernel
theorem dX10_call_154 : decode cX10_call 154 = .ok (.aload_n 0, 1) := by decide +kernel
theorem dX10_call_155 : decode cX10_call 155 = .ok (.getfield 39, 3) := by decide +kernel
theorem dX10_call_158 : decode cX10_call 158 = .ok (.aload_n 0, 1) := by decide +kernel
theorem dX10_call_159 : decode cX10_call 159 = .ok (.getfield 88, 3) := by decide +kernel
theorem dX10_call_162 : decode cX10_call 162 = .ok (.aaload, 1) := by decide +kernel
theorem dX10_call_163 : decode cX10_call 163 = .ok (.iload 6, 2) := by decide +kernel
theorem dX10_call_165 : decode cX10_call 165 = .ok (.aload_n 0, 1) := by decide +kernel
theorem dX10_call_166 : decode cX10_call 166 = .ok (.getfield 21, 3) := by decide +kernel
theorem dX10_call_169 : decode cX10_call 169 = .ok (.iload_n 1, 1) := by decide +kernel
theorem dX10_call_170 : decode cX10_call 170 = .ok (.aaload, 1) := by decide +kernel
theorem dX10_call_171 : decode cX10_call 171 = .ok (.iload 6, 2) := by decide +kernel
theorem dX10_call_173 : decode cX10_call 173 = .ok (.laload, 1) := by decide +kernel
theorem dX10_call_174 : decode cX10_call 174 = .ok (.l2i, 1) := by decide +kernel
theorem dX10_call_175 : decode cX10_call 175 = .ok (.iastore, 1) := by decide +kernel
theorem dX10_call_176 : decode cX10_call 176 = .ok (.iinc 6 1, 3) := by decide +kernel
theorem dX10_call_179 : decode cX10_call 179 = .ok (.goto (-31), 3) := by decide +kernel
theorem dX10_call_182 : decode cX10_call 182 = .ok (.aload_n 0, 1) := by decide +kernel
theorem dX10_call_183 : decode cX10_call 183 = .ok (.iload_n 2, 1) := by decide +kernel
theorem dX10_call_184 : decode cX10_call 184 = .ok (.iload_n 3, 1) := by decide +kernel
theorem dX10_call_185 : decode cX10_call 185 = .ok (.iload 4, 2) := by decide +kernel
theorem dX10_call_187 : decode cX10_call 187 = .ok (.invokevirtual 143, 3) := by decide +kernel
theorem dX10_call_190 : decode cX10_call 190 = .ok (.aload_n 0, 1) := by decide +kernel
theorem dX10_call_191 : decode cX10_call 191 = .ok (.getfield 88, 3) := by decide +kernel
theorem dX10_call_194 : decode cX10_call 194 = .ok (.iconst 1, 1) := by decide +kernel
theorem dX10_call_195 : decode cX10_call 195 = .ok (.isub, 1) := by decide +kernel
theorem dX10_call_196 : decode cX10_call 196 = .ok (.ireturn, 1) := by decide +kernel
theorem dX10_addEar_0 : decode cX10_addEar 0 = .ok (.aload_n 0, 1) := by decide +kernel
theorem dX10_addEar_1 : decode cX10_addEar 1 = .ok (.getfield 51, 3) := by decide +kernel
theorem dX10_addEar_4 : decode cX10_addEar 4 = .ok (.aload_n 0, 1) := by decide +kernel
theorem dX10_addEar_5 : decode cX10_addEar 5 = .ok (.getfield 95, 3) := by decide +kernel
theorem dX10_addEar_8 : decode cX10_addEar 8 = .ok (.iload_n 1, 1) := by decide +kernel
theorem dX10_addEar_9 : decode cX10_addEar 9 = .ok (.iastore, 1) := by decide +kernel
theorem dX10_addEar_10 : decode cX10_addEar 10 = .ok (.aload_n 0, 1) := by decide +kernel
theorem dX10_addEar_11 : decode cX10_addEar 11 = .ok (.getfield 54, 3) := by decide +kernel
theorem dX10_addEar_14 : decode cX10_addEar 14 = .ok (.aload_n 0, 1) := by decide +kernel
theorem dX10_addEar_15 : decode cX10_addEar 15 = .ok (.getfield 95, 3) := by decide +kernel
theorem dX10_addEar_18 : decode cX10_addEar 18 = .ok (.iload_n 2, 1) := by decide +kernel
theorem dX10_addEar_19 : decode cX10_addEar 19 = .ok (.iastore, 1) := by decide +kernel
theorem dX10_addEar_20 : decode cX10_addEar 20 = .ok (.aload_n 0, 1) := by decide +kernel
theorem dX10_addEar_21 : decode cX10_addEar 21 = .ok (.dup, 1) := by decide +kernel
theorem dX10_addEar_22 : decode cX10_addEar 22 = .ok (.getfield 95, 3) := by decide +kernel
theorem dX10_addEar_25 : decode cX10_addEar 25 = .ok (.iconst 1, 1) := by decide +kernel
theorem dX10_addEar_26 : decode cX10_addEar 26 = .ok (.iadd, 1) := by decide +kernel
theorem dX10_addEar_27 : decode cX10_addEar 27 = .ok (.putfield 95, 3) := by decide +kernel
theorem dX10_addEar_30 : decode cX10_addEar 30 = .ok (.return_, 1) := by decide +kernel
theorem dX10_ear_0 : decode cX10_ear 0 = .ok (.iload_n 1, 1) := by decide +kernel
theorem dX10_ear_1 : decode cX10_ear 1 = .ok (.i2l, 1) := by decide +kernel
theorem dX10_ear_2 : decode cX10_ear 2 = .ok (.lconst 0, 1) := by decide +kernel
theorem dX10_ear_3 : decode cX10_ear 3 = .ok (.ldc2_w 126, 3) := by decide +kernel
theorem dX10_ear_6 : decode cX10_ear 6 = .ok (.invokestatic 91, 3) := by decide +kernel
theorem dX10_ear_9 : decode cX10_ear 9 = .ok (.ifCond .eq 15, 3) := by decide +kernel
theorem dX10_ear_12 : decode cX10_ear 12 = .ok (.iload_n 2, 1) := by decide +kernel
theorem dX10_ear_13 : decode cX10_ear 13 = .ok (.i2l, 1) := by decide +kernel
theorem dX10_ear_14 : decode cX10_ear 14 = .ok (.lconst 0, 1) := by decide +kernel
theorem dX10_ear_15 : decode cX10_ear 15 = .ok (.ldc2_w 146, 3) := by decide +kernel
theorem dX10_ear_18 : decode cX10_ear 18 = .ok (.invokestatic 91, 3) := by decide +kernel
theorem dX10_ear_21 : decode cX10_ear 21 = .ok (.ifCond .ne 10, 3) := by decide +kernel
theorem dX10_ear_24 : decode cX10_ear 24 = .ok (.aload_n 0, 1) := by decide +kernel
theorem dX10_ear_25 : decode cX10_ear 25 = .ok (.bipush (-2), 2) := by decide +kernel
theorem dX10_ear_27 : decode cX10_ear 27 = .ok (.invokevirtual 107, 3) := by decide +kernel
theorem dX10_ear_30 : decode cX10_ear 30 = .ok (.ireturn, 1) := by decide +kernel
theorem dX10_ear_31 : decode cX10_ear 31 = .ok (.aload_n 0, 1) := by decide +kernel
theorem dX10_ear_32 : decode cX10_ear 32 = .ok (.getfield 95, 3) := by decide +kernel
theorem dX10_ear_35 : decode cX10_ear 35 = .ok (.bipush 6, 2) := by decide +kernel
theorem dX10_ear_37 : decode cX10_ear 37 = .ok (.if_icmp .ne 10, 3) := by decide +kernel
theorem dX10_ear_40 : decode cX10_ear 40 = .ok (.aload_n 0, 1) := by decide +kernel
theorem dX10_ear_41 : decode cX10_ear 41 = .ok (.bipush (-6), 2) := by decide +kernel
theorem dX10_ear_43 : decode cX10_ear 43 = .ok (.invokevirtual 107, 3) := by decide +kernel
theorem dX10_ear_46 : decode cX10_ear 46 = .ok (.ireturn, 1) := by decide +kernel
theorem dX10_ear_47 : decode cX10_ear 47 = .ok (.aload_n 0, 1) := by decide +kernel
theorem dX10_ear_48 : decode cX10_ear 48 = .ok (.iload_n 1, 1) := by decide +kernel
theorem dX10_ear_49 : decode cX10_ear 49 = .ok (.iload_n 2, 1) := by decide +kernel
theorem dX10_ear_50 : decode cX10_ear 50 = .ok (.invokevirtual 148, 3) := by decide +kernel
theorem dX10_ear_53 : decode cX10_ear 53 = .ok (.aload_n 0, 1) := by decide +kernel
theorem dX10_ear_54 : decode cX10_ear 54 = .ok (.getfield 95, 3) := by decide +kernel
theorem dX10_ear_57 : decode cX10_ear 57 = .ok (.iconst 1, 1) := by decide +kernel
theorem dX10_ear_58 : decode cX10_ear 58 = .ok (.isub, 1) := by decide +kernel
theorem dX10_ear_59 : decode cX10_ear 59 = .ok (.ireturn, 1) := by decide +kernel
theorem dX10_addMan_0 : decode cX10_addMan 0 = .ok (.aload_n 0, 1) := by decide +kernel
theorem dX10_addMan_1 : decode cX10_addMan 1 = .ok (.getfield 57, 3) := by decide +kernel
theorem dX10_addMan_4 : decode cX10_addMan 4 = .ok (.aload_n 0, 1) := by decide +kernel
theorem dX10_addMan_5 : decode cX10_addMan 5 = .ok (.getfield 98, 3) := by decide +kernel
theorem dX10_addMan_8 : decode cX10_addMan 8 = .ok (.iload_n 1, 1) := by decide +kernel
theorem dX10_addMan_9 : decode cX10_addMan 9 = .ok (.iastore, 1) := by decide +kernel
theorem dX10_addMan_10 : decode cX10_addMan 10 = .ok (.aload_n 0, 1) := by decide +kernel
theorem dX10_addMan_11 : decode cX10_addMan 11 = .ok (.getfield 60, 3) := by decide +kernel
theorem dX10_addMan_14 : decode cX10_addMan 14 = .ok (.aload_n 0, 1) := by decide +kernel
theorem dX10_addMan_15 : decode cX10_addMan 15 = .ok (.getfield 98, 3) := by decide +kernel
theorem dX10_addMan_18 : decode cX10_addMan 18 = .ok (.iload_n 2, 1) := by decide +kernel
theorem dX10_addMan_19 : decode cX10_addMan 19 = .ok (.iastore, 1) := by decide +kernel
theorem dX10_addMan_20 : decode cX10_addMan 20 = .ok (.aload_n 0, 1) := by decide +kernel
theorem dX10_addMan_21 : decode cX10_addMan 21 = .ok (.dup, 1) := by decide +kernel
theorem dX10_addMan_22 : decode cX10_addMan 22 = .ok (.getfield 98, 3) := by decide +kernel
theorem dX10_addMan_25 : decode cX10_addMan 25 = .ok (.iconst 1, 1) := by decide +kernel
theorem dX10_addMan_26 : decode cX10_addMan 26 = .ok (.iadd, 1) := by decide +kernel
theorem dX10_addMan_27 : decode cX10_addMan 27 = .ok (.putfield 98, 3) := by decide +kernel
theorem dX10_addMan_30 : decode cX10_addMan 30 = .ok (.return_, 1) := by decide +kernel
theorem dX10_man_0 : decode cX10_man 0 = .ok (.aload_n 0, 1) := by decide +kernel
theorem dX10_man_1 : decode cX10_man 1 = .ok (.iload_n 1, 1) := by decide +kernel
theorem dX10_man_2 : decode cX10_man 2 = .ok (.invokevirtual 122, 3) := by decide +kernel
theorem dX10_man_5 : decode cX10_man 5 = .ok (.ifCond .eq 13, 3) := by decide +kernel
theorem dX10_man_8 : decode cX10_man 8 = .ok (.iload_n 2, 1) := by decide +kernel
theorem dX10_man_9 : decode cX10_man 9 = .ok (.i2l, 1) := by decide +kernel
theorem dX10_man_10 : decode cX10_man 10 = .ok (.lconst 0, 1) := by decide +kernel
theorem dX10_man_11 : decode cX10_man 11 = .ok (.lconst 1, 1) := by decide +kernel
theorem dX10_man_12 : decode cX10_man 12 = .ok (.invokestatic 91, 3) := by decide +kernel
theorem dX10_man_15 : decode cX10_man 15 = .ok (.ifCond .ne 10, 3) := by decide +kernel
theorem dX10_man_18 : decode cX10_man 18 = .ok (.aload_n 0, 1) := by decide +kernel
theorem dX10_man_19 : decode cX10_man 19 = .ok (.bipush (-2), 2) := by decide +kernel
theorem dX10_man_21 : decode cX10_man 21 = .ok (.invokevirtual 107, 3) := by decide +kernel
theorem dX10_man_24 : decode cX10_man 24 = .ok (.ireturn, 1) := by decide +kernel
theorem dX10_man_25 : decode cX10_man 25 = .ok (.aload_n 0, 1) := by decide +kernel
theorem dX10_man_26 : decode cX10_man 26 = .ok (.getfield 98, 3) := by decide +kernel
theorem dX10_man_29 : decode cX10_man 29 = .ok (.bipush 8, 2) := by decide +kernel
theorem dX10_man_31 : decode cX10_man 31 = .ok (.if_icmp .ne 10, 3) := by decide +kernel
theorem dX10_man_34 : decode cX10_man 34 = .ok (.aload_n 0, 1) := by decide +kernel
theorem dX10_man_35 : decode cX10_man 35 = .ok (.bipush (-6), 2) := by decide +kernel
theorem dX10_man_37 : decode cX10_man 37 = .ok (.invokevirtual 107, 3) := by decide +kernel
theorem dX10_man_40 : decode cX10_man 40 = .ok (.ireturn, 1) := by decide +kernel
theorem dX10_man_41 : decode cX10_man 41 = .ok (.aload_n 0, 1) := by decide +kernel
theorem dX10_man_42 : decode cX10_man 42 = .ok (.iload_n 1, 1) := by decide +kernel
theorem dX10_man_43 : decode cX10_man 43 = .ok (.iload_n 2, 1) := by decide +kernel
theorem dX10_man_44 : decode cX10_man 44 = .ok (.invokevirtual 152, 3) := by decide +kernel
theorem dX10_man_47 : decode cX10_man 47 = .ok (.aload_n 0, 1) := by decide +kernel
theorem dX10_man_48 : decode cX10_man 48 = .ok (.getfield 98, 3) := by decide +kernel
theorem dX10_man_51 : decode cX10_man 51 = .ok (.iconst 1, 1) := by decide +kernel
theorem dX10_man_52 : decode cX10_man 52 = .ok (.isub, 1) := by decide +kernel
theorem dX10_man_53 : decode cX10_man 53 = .ok (.ireturn, 1) := by decide +kernel
theorem dX10_tell_0 : decode cX10_tell 0 = .ok (.iload_n 2, 1) := by decide +kernel
theorem dX10_tell_1 : decode cX10_tell 1 = .ok (.ifCond .ne 15, 3) := by decide +kernel
theorem dX10_tell_4 : decode cX10_tell 4 = .ok (.iload_n 3, 1) := by decide +kernel
theorem dX10_tell_5 : decode cX10_tell 5 = .ok (.i2l, 1) := by decide +kernel
theorem dX10_tell_6 : decode cX10_tell 6 = .ok (.lconst 1, 1) := by decide +kernel
theorem dX10_tell_7 : decode cX10_tell 7 = .ok (.ldc2_w 141, 3) := by decide +kernel
theorem dX10_tell_10 : decode cX10_tell 10 = .ok (.invokestatic 91, 3) := by decide +kernel
theorem dX10_tell_13 : decode cX10_tell 13 = .ok (.goto 25, 3) := by decide +kernel
theorem dX10_tell_16 : decode cX10_tell 16 = .ok (.iload_n 2, 1) := by decide +kernel
theorem dX10_tell_17 : decode cX10_tell 17 = .ok (.iconst 1, 1) := by decide +kernel
theorem dX10_tell_18 : decode cX10_tell 18 = .ok (.if_icmp .ne 19, 3) := by decide +kernel
theorem dX10_tell_21 : decode cX10_tell 21 = .ok (.iload_n 3, 1) := by decide +kernel
theorem dX10_tell_22 : decode cX10_tell 22 = .ok (.i2l, 1) := by decide +kernel
theorem dX10_tell_23 : decode cX10_tell 23 = .ok (.lconst 0, 1) := by decide +kernel
theorem dX10_tell_24 : decode cX10_tell 24 = .ok (.ldc2_w 141, 3) := by decide +kernel
theorem dX10_tell_27 : decode cX10_tell 27 = .ok (.invokestatic 91, 3) := by decide +kernel
theorem dX10_tell_30 : decode cX10_tell 30 = .ok (.ifCond .eq 7, 3) := by decide +kernel
theorem dX10_tell_33 : decode cX10_tell 33 = .ok (.iconst 1, 1) := by decide +kernel
theorem dX10_tell_34 : decode cX10_tell 34 = .ok (.goto 4, 3) := by decide +kernel
theorem dX10_tell_37 : decode cX10_tell 37 = .ok (.iconst 0, 1) := by decide +kernel
theorem dX10_tell_38 : decode cX10_tell 38 = .ok (.istore 4, 2) := by decide +kernel
theorem dX10_tell_40 : decode cX10_tell 40 = .ok (.aload_n 0, 1) := by decide +kernel
theorem dX10_tell_41 : decode cX10_tell 41 = .ok (.iload_n 1, 1) := by decide +kernel
theorem dX10_tell_42 : decode cX10_tell 42 = .ok (.invokevirtual 155, 3) := by decide +kernel
theorem dX10_tell_45 : decode cX10_tell 45 = .ok (.ifCond .eq 8, 3) := by decide +kernel
theorem dX10_tell_48 : decode cX10_tell 48 = .ok (.iload 4, 2) := by decide +kernel
theorem dX10_tell_50 : decode cX10_tell 50 = .ok (.ifCond .ne 10, 3) := by decide +kernel
theorem dX10_tell_53 : decode cX10_tell 53 = .ok (.aload_n 0, 1) := by decide +kernel
theorem dX10_tell_54 : decode cX10_tell 54 = .ok (.bipush (-2), 2) := by decide +kernel
theorem dX10_tell_56 : decode cX10_tell 56 = .ok (.invokevirtual 107, 3) := by decide +kernel
theorem dX10_tell_59 : decode cX10_tell 59 = .ok (.ireturn, 1) := by decide +kernel
theorem dX10_tell_60 : decode cX10_tell 60 = .ok (.iload_n 2, 1) := by decide +kernel
theorem dX10_tell_61 : decode cX10_tell 61 = .ok (.ifCond .ne 10, 3) := by decide +kernel
theorem dX10_tell_64 : decode cX10_tell 64 = .ok (.aload_n 0, 1) := by decide +kernel
theorem dX10_tell_65 : decode cX10_tell 65 = .ok (.getfield 45, 3) := by decide +kernel
theorem dX10_tell_68 : decode cX10_tell 68 = .ok (.goto 7, 3) := by decide +kernel
theorem dX10_tell_71 : decode cX10_tell 71 = .ok (.aload_n 0, 1) := by decide +kernel
theorem dX10_tell_72 : decode cX10_tell 72 = .ok (.getfield 48, 3) := by decide +kernel
theorem dX10_tell_75 : decode cX10_tell 75 = .ok (.astore 5, 2) := by decide +kernel
theorem dX10_tell_77 : decode cX10_tell 77 = .ok (.aload 5, 2) := by decide +kernel
theorem dX10_tell_79 : decode cX10_tell 79 = .ok (.iload_n 1, 1) := by decide +kernel
theorem dX10_tell_80 : decode cX10_tell 80 = .ok (.iaload, 1) := by decide +kernel
theorem dX10_tell_81 : decode cX10_tell 81 = .ok (.istore 6, 2) := by decide +kernel
theorem dX10_tell_83 : decode cX10_tell 83 = .ok (.aload 5, 2) := by decide +kernel
theorem dX10_tell_85 : decode cX10_tell 85 = .ok (.iload_n 1, 1) := by decide +kernel
theorem dX10_tell_86 : decode cX10_tell 86 = .ok (.iload_n 3, 1) := by decide +kernel
theorem dX10_tell_87 : decode cX10_tell 87 = .ok (.iastore, 1) := by decide +kernel
theorem dX10_tell_88 : decode cX10_tell 88 = .ok (.iload 6, 2) := by decide +kernel
theorem dX10_tell_90 : decode cX10_tell 90 = .ok (.ireturn, 1) := by decide +kernel
theorem dX10_ask_0 : decode cX10_ask 0 = .ok (.iload_n 1, 1) := by decide +kernel
theorem dX10_ask_1 : decode cX10_ask 1 = .ok (.ifCond .ne 15, 3) := by decide +kernel
theorem dX10_ask_4 : decode cX10_ask 4 = .ok (.iload_n 2, 1) := by decide +kernel
theorem dX10_ask_5 : decode cX10_ask 5 = .ok (.i2l, 1) := by decide +kernel
theorem dX10_ask_6 : decode cX10_ask 6 = .ok (.lconst 0, 1) := by decide +kernel
theorem dX10_ask_7 : decode cX10_ask 7 = .ok (.ldc2_w 158, 3) := by decide +kernel
theorem dX10_ask_10 : decode cX10_ask 10 = .ok (.invokestatic 91, 3) := by decide +kernel
theorem dX10_ask_13 : decode cX10_ask 13 = .ok (.goto 25, 3) := by decide +kernel
theorem dX10_ask_16 : decode cX10_ask 16 = .ok (.iload_n 1, 1) := by decide +kernel
theorem dX10_ask_17 : decode cX10_ask 17 = .ok (.iconst 1, 1) := by decide +kernel
theorem dX10_ask_18 : decode cX10_ask 18 = .ok (.if_icmp .ne 19, 3) := by decide +kernel
theorem dX10_ask_21 : decode cX10_ask 21 = .ok (.iload_n 2, 1) := by decide +kernel
theorem dX10_ask_22 : decode cX10_ask 22 = .ok (.i2l, 1) := by decide +kernel
theorem dX10_ask_23 : decode cX10_ask 23 = .ok (.lconst 0, 1) := by decide +kernel
theorem dX10_ask_24 : decode cX10_ask 24 = .ok (.ldc2_w 160, 3) := by decide +kernel
theorem dX10_ask_27 : decode cX10_ask 27 = .ok (.invokestatic 91, 3) := by decide +kernel
theorem dX10_ask_30 : decode cX10_ask 30 = .ok (.ifCond .eq 7, 3) := by decide +kernel
theorem dX10_ask_33 : decode cX10_ask 33 = .ok (.iconst 1, 1) := by decide +kernel
theorem dX10_ask_34 : decode cX10_ask 34 = .ok (.goto 4, 3) := by decide +kernel
theorem dX10_ask_37 : decode cX10_ask 37 = .ok (.iconst 0, 1) := by decide +kernel
theorem dX10_ask_38 : decode cX10_ask 38 = .ok (.istore_n 3, 1) := by decide +kernel
theorem dX10_ask_39 : decode cX10_ask 39 = .ok (.iload_n 3, 1) := by decide +kernel
theorem dX10_ask_40 : decode cX10_ask 40 = .ok (.ifCond .ne 10, 3) := by decide +kernel
theorem dX10_ask_43 : decode cX10_ask 43 = .ok (.aload_n 0, 1) := by decide +kernel
theorem dX10_ask_44 : decode cX10_ask 44 = .ok (.bipush (-2), 2) := by decide +kernel
theorem dX10_ask_46 : decode cX10_ask 46 = .ok (.invokevirtual 107, 3) := by decide +kernel
theorem dX10_ask_49 : decode cX10_ask 49 = .ok (.ireturn, 1) := by decide +kernel
theorem dX10_ask_50 : decode cX10_ask 50 = .ok (.iload_n 1, 1) := by decide +kernel
theorem dX10_ask_51 : decode cX10_ask 51 = .ok (.ifCond .ne 10, 3) := by decide +kernel
theorem dX10_ask_54 : decode cX10_ask 54 = .ok (.aload_n 0, 1) := by decide +kernel
theorem dX10_ask_55 : decode cX10_ask 55 = .ok (.getfield 63, 3) := by decide +kernel
theorem dX10_ask_58 : decode cX10_ask 58 = .ok (.goto 7, 3) := by decide +kernel
theorem dX10_ask_61 : decode cX10_ask 61 = .ok (.aload_n 0, 1) := by decide +kernel
theorem dX10_ask_62 : decode cX10_ask 62 = .ok (.getfield 67, 3) := by decide +kernel
theorem dX10_ask_65 : decode cX10_ask 65 = .ok (.istore 4, 2) := by decide +kernel
theorem dX10_ask_67 : decode cX10_ask 67 = .ok (.aload_n 0, 1) := by decide +kernel
theorem dX10_ask_68 : decode cX10_ask 68 = .ok (.iload_n 1, 1) := by decide +kernel
theorem dX10_ask_69 : decode cX10_ask 69 = .ok (.ifCond .ne 7, 3) := by decide +kernel
theorem dX10_ask_72 : decode cX10_ask 72 = .ok (.iload_n 2, 1) := by decide +kernel
theorem dX10_ask_73 : decode cX10_ask 73 = .ok (.goto 7, 3) := by decide +kernel
theorem dX10_ask_76 : decode cX10_ask 76 = .ok (.aload_n 0, 1) := by decide +kernel
theorem dX10_ask_77 : decode cX10_ask 77 = .ok (.getfield 63, 3) := by decide +kernel
theorem dX10_ask_80 : decode cX10_ask 80 = .ok (.putfield 63, 3) := by decide +kernel
theorem dX10_ask_83 : decode cX10_ask 83 = .ok (.aload_n 0, 1) := by decide +kernel
theorem dX10_ask_84 : decode cX10_ask 84 = .ok (.iload_n 1, 1) := by decide +kernel
theorem dX10_ask_85 : decode cX10_ask 85 = .ok (.iconst 1, 1) := by decide +kernel
theorem dX10_ask_86 : decode cX10_ask 86 = .ok (.if_icmp .ne 7, 3) := by decide +kernel
theorem dX10_ask_89 : decode cX10_ask 89 = .ok (.iload_n 2, 1) := by decide +kernel
theorem dX10_ask_90 : decode cX10_ask 90 = .ok (.goto 7, 3) := by decide +kernel
theorem dX10_ask_93 : decode cX10_ask 93 = .ok (.aload_n 0, 1) := by decide +kernel
theorem dX10_ask_94 : decode cX10_ask 94 = .ok (.getfield 67, 3) := by decide +kernel
theorem dX10_ask_97 : decode cX10_ask 97 = .ok (.putfield 67, 3) := by decide +kernel
theorem dX10_ask_100 : decode cX10_ask 100 = .ok (.iload 4, 2) := by decide +kernel
theorem dX10_ask_102 : decode cX10_ask 102 = .ok (.ireturn, 1) := by decide +kernel
theorem dX10_feed_0 : decode cX10_feed 0 = .ok (.iload_n 1, 1) := by decide +kernel
theorem dX10_feed_1 : decode cX10_feed 1 = .ok (.i2l, 1) := by decide +kernel
theorem dX10_feed_2 : decode cX10_feed 2 = .ok (.lconst 0, 1) := by decide +kernel
theorem dX10_feed_3 : decode cX10_feed 3 = .ok (.ldc2_w 162, 3) := by decide +kernel
theorem dX10_feed_6 : decode cX10_feed 6 = .ok (.invokestatic 91, 3) := by decide +kernel
theorem dX10_feed_9 : decode cX10_feed 9 = .ok (.ifCond .ne 10, 3) := by decide +kernel
theorem dX10_feed_12 : decode cX10_feed 12 = .ok (.aload_n 0, 1) := by decide +kernel
theorem dX10_feed_13 : decode cX10_feed 13 = .ok (.bipush (-2), 2) := by decide +kernel
theorem dX10_feed_15 : decode cX10_feed 15 = .ok (.invokevirtual 107, 3) := by decide +kernel
theorem dX10_feed_18 : decode cX10_feed 18 = .ok (.ireturn, 1) := by decide +kernel
theorem dX10_feed_19 : decode cX10_feed 19 = .ok (.aload_n 0, 1) := by decide +kernel
theorem dX10_feed_20 : decode cX10_feed 20 = .ok (.getfield 164, 3) := by decide +kernel
theorem dX10_feed_23 : decode cX10_feed 23 = .ok (.sipush 250, 3) := by decide +kernel
theorem dX10_feed_26 : decode cX10_feed 26 = .ok (.if_icmp .ne 10, 3) := by decide +kernel
theorem dX10_feed_29 : decode cX10_feed 29 = .ok (.aload_n 0, 1) := by decide +kernel
theorem dX10_feed_30 : decode cX10_feed 30 = .ok (.bipush (-6), 2) := by decide +kernel
theorem dX10_feed_32 : decode cX10_feed 32 = .ok (.invokevirtual 107, 3) := by decide +kernel
theorem dX10_feed_35 : decode cX10_feed 35 = .ok (.ireturn, 1) := by decide +kernel
theorem dX10_feed_36 : decode cX10_feed 36 = .ok (.aload_n 0, 1) := by decide +kernel
theorem dX10_feed_37 : decode cX10_feed 37 = .ok (.getfield 31, 3) := by decide +kernel
theorem dX10_feed_40 : decode cX10_feed 40 = .ok (.aload_n 0, 1) := by decide +kernel
theorem dX10_feed_41 : decode cX10_feed 41 = .ok (.dup, 1) := by decide +kernel
theorem dX10_feed_42 : decode cX10_feed 42 = .ok (.getfield 164, 3) := by decide +kernel
theorem dX10_feed_45 : decode cX10_feed 45 = .ok (.dup_x1, 1) := by decide +kernel
theorem dX10_feed_46 : decode cX10_feed 46 = .ok (.iconst 1, 1) := by decide +kernel
theorem dX10_feed_47 : decode cX10_feed 47 = .ok (.iadd, 1) := by decide +kernel
theorem dX10_feed_48 : decode cX10_feed 48 = .ok (.putfield 164, 3) := by decide +kernel
theorem dX10_feed_51 : decode cX10_feed 51 = .ok (.iload_n 1, 1) := by decide +kernel
theorem dX10_feed_52 : decode cX10_feed 52 = .ok (.iastore, 1) := by decide +kernel
theorem dX10_feed_53 : decode cX10_feed 53 = .ok (.aload_n 0, 1) := by decide +kernel
theorem dX10_feed_54 : decode cX10_feed 54 = .ok (.getfield 164, 3) := by decide +kernel
theorem dX10_feed_57 : decode cX10_feed 57 = .ok (.ireturn, 1) := by decide +kernel
theorem dX10_wipe_0 : decode cX10_wipe 0 = .ok (.aload_n 0, 1) := by decide +kernel
theorem dX10_wipe_1 : decode cX10_wipe 1 = .ok (.getfield 164, 3) := by decide +kernel
theorem dX10_wipe_4 : decode cX10_wipe 4 = .ok (.istore_n 1, 1) := by decide +kernel
theorem dX10_wipe_5 : decode cX10_wipe 5 = .ok (.aload_n 0, 1) := by decide +kernel
theorem dX10_wipe_6 : decode cX10_wipe 6 = .ok (.iconst 0, 1) := by decide +kernel
theorem dX10_wipe_7 : decode cX10_wipe 7 = .ok (.putfield 164, 3) := by decide +kernel
theorem dX10_wipe_10 : decode cX10_wipe 10 = .ok (.iload_n 1, 1) := by decide +kernel
theorem dX10_wipe_11 : decode cX10_wipe 11 = .ok (.ireturn, 1) := by decide +kernel
theorem dX10_isLetter_0 : decode cX10_isLetter 0 = .ok (.iload_n 0, 1) := by decide +kernel
theorem dX10_isLetter_1 : decode cX10_isLetter 1 = .ok (.bipush 97, 2) := by decide +kernel
theorem dX10_isLetter_3 : decode cX10_isLetter 3 = .ok (.if_icmp .lt 13, 3) := by decide +kernel
theorem dX10_isLetter_6 : decode cX10_isLetter 6 = .ok (.iload_n 0, 1) := by decide +kernel
theorem dX10_isLetter_7 : decode cX10_isLetter 7 = .ok (.bipush 122, 2) := by decide +kernel
theorem dX10_isLetter_9 : decode cX10_isLetter 9 = .ok (.if_icmp .gt 7, 3) := by decide +kernel
theorem dX10_isLetter_12 : decode cX10_isLetter 12 = .ok (.iconst 1, 1) := by decide +kernel
theorem dX10_isLetter_13 : decode cX10_isLetter 13 = .ok (.goto 4, 3) := by decide +kernel
theorem dX10_isLetter_16 : decode cX10_isLetter 16 = .ok (.iconst 0, 1) := by decide +kernel
theorem dX10_isLetter_17 : decode cX10_isLetter 17 = .ok (.ireturn, 1) := by decide +kernel
theorem dX10_isDigit_0 : decode cX10_isDigit 0 = .ok (.iload_n 0, 1) := by decide +kernel
theorem dX10_isDigit_1 : decode cX10_isDigit 1 = .ok (.bipush 48, 2) := by decide +kernel
theorem dX10_isDigit_3 : decode cX10_isDigit 3 = .ok (.if_icmp .lt 13, 3) := by decide +kernel
theorem dX10_isDigit_6 : decode cX10_isDigit 6 = .ok (.iload_n 0, 1) := by decide +kernel
theorem dX10_isDigit_7 : decode cX10_isDigit 7 = .ok (.bipush 57, 2) := by decide +kernel
theorem dX10_isDigit_9 : decode cX10_isDigit 9 = .ok (.if_icmp .gt 7, 3) := by decide +kernel
theorem dX10_isDigit_12 : decode cX10_isDigit 12 = .ok (.iconst 1, 1) := by decide +kernel
theorem dX10_isDigit_13 : decode cX10_isDigit 13 = .ok (.goto 4, 3) := by decide +kernel
theorem dX10_isDigit_16 : decode cX10_isDigit 16 = .ok (.iconst 0, 1) := by decide +kernel
theorem dX10_isDigit_17 : decode cX10_isDigit 17 = .ok (.ireturn, 1) := by decide +kernel
theorem dX10_token_0 : decode cX10_token 0 = .ok (.aload_n 0, 1) := by decide +kernel
theorem dX10_token_1 : decode cX10_token 1 = .ok (.getfield 167, 3) := by decide +kernel
theorem dX10_token_4 : decode cX10_token 4 = .ok (.aload_n 0, 1) := by decide +kernel
theorem dX10_token_5 : decode cX10_token 5 = .ok (.getfield 164, 3) := by decide +kernel
theorem dX10_token_8 : decode cX10_token 8 = .ok (.if_icmp .ge 30, 3) := by decide +kernel
theorem dX10_token_11 : decode cX10_token 11 = .ok (.aload_n 0, 1) := by decide +kernel
theorem dX10_token_12 : decode cX10_token 12 = .ok (.getfield 31, 3) := by decide +kernel
theorem dX10_token_15 : decode cX10_token 15 = .ok (.aload_n 0, 1) := by decide +kernel
theorem dX10_token_16 : decode cX10_token 16 = .ok (.getfield 167, 3) := by decide +kernel
theorem dX10_token_19 : decode cX10_token 19 = .ok (.iaload, 1) := by decide +kernel
theorem dX10_token_20 : decode cX10_token 20 = .ok (.bipush 32, 2) := by decide +kernel
theorem dX10_token_22 : decode cX10_token 22 = .ok (.if_icmp .ne 16, 3) := by decide +kernel
theorem dX10_token_25 : decode cX10_token 25 = .ok (.aload_n 0, 1) := by decide +kernel
theorem dX10_token_26 : decode cX10_token 26 = .ok (.dup, 1) := by decide +kernel
theorem dX10_token_27 : decode cX10_token 27 = .ok (.getfield 167, 3) := by decide +kernel
theorem dX10_token_30 : decode cX10_token 30 = .ok (.iconst 1, 1) := by decide +kernel
theorem dX10_token_31 : decode cX10_token 31 = .ok (.iadd, 1) := by decide +kernel
theorem dX10_token_32 : decode cX10_token 32 = .ok (.putfield 167, 3) := by decide +kernel
theorem dX10_token_35 : decode cX10_token 35 = .ok (.goto (-35), 3) := by decide +kernel
theorem dX10_token_38 : decode cX10_token 38 = .ok (.aload_n 0, 1) := by decide +kernel
theorem dX10_token_39 : decode cX10_token 39 = .ok (.aload_n 0, 1) := by decide +kernel
theorem dX10_token_40 : decode cX10_token 40 = .ok (.getfield 167, 3) := by decide +kernel
theorem dX10_token_43 : decode cX10_token 43 = .ok (.putfield 170, 3) := by decide +kernel
theorem dX10_token_46 : decode cX10_token 46 = .ok (.aload_n 0, 1) := by decide +kernel
theorem dX10_token_47 : decode cX10_token 47 = .ok (.iconst 0, 1) := by decide +kernel
theorem dX10_token_48 : decode cX10_token 48 = .ok (.putfield 173, 3) := by decide +kernel
theorem dX10_token_51 : decode cX10_token 51 = .ok (.aload_n 0, 1) := by decide +kernel
theorem dX10_token_52 : decode cX10_token 52 = .ok (.getfield 167, 3) := by decide +kernel
theorem dX10_token_55 : decode cX10_token 55 = .ok (.aload_n 0, 1) := by decide +kernel
theorem dX10_token_56 : decode cX10_token 56 = .ok (.getfield 164, 3) := by decide +kernel
theorem dX10_token_59 : decode cX10_token 59 = .ok (.if_icmp .ne 11, 3) := by decide +kernel
theorem dX10_token_62 : decode cX10_token 62 = .ok (.aload_n 0, 1) := by decide +kernel
theorem dX10_token_63 : decode cX10_token 63 = .ok (.iconst 0, 1) := by decide +kernel
theorem dX10_token_64 : decode cX10_token 64 = .ok (.putfield 176, 3) := by decide +kernel
theorem dX10_token_67 : decode cX10_token 67 = .ok (.goto 196, 3) := by decide +kernel
theorem dX10_token_70 : decode cX10_token 70 = .ok (.aload_n 0, 1) := by decide +kernel
theorem dX10_token_71 : decode cX10_token 71 = .ok (.getfield 31, 3) := by decide +kernel
theorem dX10_token_74 : decode cX10_token 74 = .ok (.aload_n 0, 1) := by decide +kernel
theorem dX10_token_75 : decode cX10_token 75 = .ok (.getfield 167, 3) := by decide +kernel
theorem dX10_token_78 : decode cX10_token 78 = .ok (.iaload, 1) := by decide +kernel
theorem dX10_token_79 : decode cX10_token 79 = .ok (.invokestatic 179, 3) := by decide +kernel
theorem dX10_token_82 : decode cX10_token 82 = .ok (.ifCond .eq 47, 3) := by decide +kernel
theorem dX10_token_85 : decode cX10_token 85 = .ok (.aload_n 0, 1) := by decide +kernel
theorem dX10_token_86 : decode cX10_token 86 = .ok (.iconst 1, 1) := by decide +kernel
theorem dX10_token_87 : decode cX10_token 87 = .ok (.putfield 176, 3) := by decide +kernel
theorem dX10_token_90 : decode cX10_token 90 = .ok (.aload_n 0, 1) := by decide +kernel
theorem dX10_token_91 : decode cX10_token 91 = .ok (.getfield 167, 3) := by decide +kernel
theorem dX10_token_94 : decode cX10_token 94 = .ok (.aload_n 0, 1) := by decide +kernel
theorem dX10_token_95 : decode cX10_token 95 = .ok (.getfield 164, 3) := by decide +kernel
theorem dX10_token_98 : decode cX10_token 98 = .ok (.if_icmp .ge 165, 3) := by decide +kernel
theorem dX10_token_101 : decode cX10_token 101 = .ok (.aload_n 0, 1) := by decide +kernel
theorem dX10_token_102 : decode cX10_token 102 = .ok (.getfield 31, 3) := by decide +kernel
theorem dX10_token_105 : decode cX10_token 105 = .ok (.aload_n 0, 1) := by decide +kernel
theorem dX10_token_106 : decode cX10_token 106 = .ok (.getfield 167, 3) := by decide +kernel
theorem dX10_token_109 : decode cX10_token 109 = .ok (.iaload, 1) := by decide +kernel
theorem dX10_token_110 : decode cX10_token 110 = .ok (.invokestatic 179, 3) := by decide +kernel
theorem dX10_token_113 : decode cX10_token 113 = .ok (.ifCond .eq 150, 3) := by decide +kernel
theorem dX10_token_116 : decode cX10_token 116 = .ok (.aload_n 0, 1) := by decide +kernel
theorem dX10_token_117 : decode cX10_token 117 = .ok (.dup, 1) := by decide +kernel
theorem dX10_token_118 : decode cX10_token 118 = .ok (.getfield 167, 3) := by decide +kernel
theorem dX10_token_121 : decode cX10_token 121 = .ok (.iconst 1, 1) := by decide +kernel
theorem dX10_token_122 : decode cX10_token 122 = .ok (.iadd, 1) := by decide +kernel
theorem dX10_token_123 : decode cX10_token 123 = .ok (.putfield 167, 3) := by decide +kernel
theorem dX10_token_126 : decode cX10_token 126 = .ok (.goto (-36), 3) := by decide +kernel
theorem dX10_token_129 : decode cX10_token 129 = .ok (.aload_n 0, 1) := by decide +kernel
theorem dX10_token_130 : decode cX10_token 130 = .ok (.getfield 31, 3) := by decide +kernel
theorem dX10_token_133 : decode cX10_token 133 = .ok (.aload_n 0, 1) := by decide +kernel
theorem dX10_token_134 : decode cX10_token 134 = .ok (.getfield 167, 3) := by decide +kernel
theorem dX10_token_137 : decode cX10_token 137 = .ok (.iaload, 1) := by decide +kernel
theorem dX10_token_138 : decode cX10_token 138 = .ok (.invokestatic 182, 3) := by decide +kernel
theorem dX10_token_141 : decode cX10_token 141 = .ok (.ifCond .eq 89, 3) := by decide +kernel
theorem dX10_token_144 : decode cX10_token 144 = .ok (.aload_n 0, 1) := by decide +kernel
theorem dX10_token_145 : decode cX10_token 145 = .ok (.iconst 2, 1) := by decide +kernel
theorem dX10_token_146 : decode cX10_token 146 = .ok (.putfield 176, 3) := by decide +kernel
theorem dX10_token_149 : decode cX10_token 149 = .ok (.aload_n 0, 1) := by decide +kernel
theorem dX10_token_150 : decode cX10_token 150 = .ok (.getfield 167, 3) := by decide +kernel
theorem dX10_token_153 : decode cX10_token 153 = .ok (.aload_n 0, 1) := by decide +kernel
theorem dX10_token_154 : decode cX10_token 154 = .ok (.getfield 164, 3) := by decide +kernel
theorem dX10_token_157 : decode cX10_token 157 = .ok (.if_icmp .ge 106, 3) := by decide +kernel
theorem dX10_token_160 : decode cX10_token 160 = .ok (.aload_n 0, 1) := by decide +kernel
theorem dX10_token_161 : decode cX10_token 161 = .ok (.getfield 31, 3) := by decide +kernel
theorem dX10_token_164 : decode cX10_token 164 = .ok (.aload_n 0, 1) := by decide +kernel
theorem dX10_token_165 : decode cX10_token 165 = .ok (.getfield 167, 3) := by decide +kernel
theorem dX10_token_168 : decode cX10_token 168 = .ok (.iaload, 1) := by decide +kernel
theorem dX10_token_169 : decode cX10_token 169 = .ok (.invokestatic 182, 3) := by decide +kernel
theorem dX10_token_172 : decode cX10_token 172 = .ok (.ifCond .eq 91, 3) := by decide +kernel
theorem dX10_token_175 : decode cX10_token 175 = .ok (.aload_n 0, 1) := by decide +kernel
theorem dX10_token_176 : decode cX10_token 176 = .ok (.aload_n 0, 1) := by decide +kernel
theorem dX10_token_177 : decode cX10_token 177 = .ok (.getfield 167, 3) := by decide +kernel
theorem dX10_token_180 : decode cX10_token 180 = .ok (.aload_n 0, 1) := by decide +kernel
theorem dX10_token_181 : decode cX10_token 181 = .ok (.getfield 170, 3) := by decide +kernel
theorem dX10_token_184 : decode cX10_token 184 = .ok (.isub, 1) := by decide +kernel
theorem dX10_token_185 : decode cX10_token 185 = .ok (.iconst 4, 1) := by decide +kernel
theorem dX10_token_186 : decode cX10_token 186 = .ok (.if_icmp .ge 26, 3) := by decide +kernel
theorem dX10_token_189 : decode cX10_token 189 = .ok (.aload_n 0, 1) := by decide +kernel
theorem dX10_token_190 : decode cX10_token 190 = .ok (.getfield 173, 3) := by decide +kernel
theorem dX10_token_193 : decode cX10_token 193 = .ok (.bipush 10, 2) := by decide +kernel
theorem dX10_token_195 : decode cX10_token 195 = .ok (.imul, 1) := by decide +kernel
theorem dX10_token_196 : decode cX10_token 196 = .ok (.aload_n 0, 1) := by decide +kernel
theorem dX10_token_197 : decode cX10_token 197 = .ok (.getfield 31, 3) := by decide +kernel
theorem dX10_token_200 : decode cX10_token 200 = .ok (.aload_n 0, 1) := by decide +kernel
theorem dX10_token_201 : decode cX10_token 201 = .ok (.getfield 167, 3) := by decide +kernel
theorem dX10_token_204 : decode cX10_token 204 = .ok (.iaload, 1) := by decide +kernel
theorem dX10_token_205 : decode cX10_token 205 = .ok (.iadd, 1) := by decide +kernel
theorem dX10_token_206 : decode cX10_token 206 = .ok (.bipush 48, 2) := by decide +kernel
theorem dX10_token_208 : decode cX10_token 208 = .ok (.isub, 1) := by decide +kernel
theorem dX10_token_209 : decode cX10_token 209 = .ok (.goto 5, 3) := by decide +kernel
theorem dX10_token_212 : decode cX10_token 212 = .ok (.ldc 185, 2) := by decide +kernel
theorem dX10_token_214 : decode cX10_token 214 = .ok (.putfield 173, 3) := by decide +kernel
theorem dX10_token_217 : decode cX10_token 217 = .ok (.aload_n 0, 1) := by decide +kernel
theorem dX10_token_218 : decode cX10_token 218 = .ok (.dup, 1) := by decide +kernel
theorem dX10_token_219 : decode cX10_token 219 = .ok (.getfield 167, 3) := by decide +kernel
theorem dX10_token_222 : decode cX10_token 222 = .ok (.iconst 1, 1) := by decide +kernel
theorem dX10_token_223 : decode cX10_token 223 = .ok (.iadd, 1) := by decide +kernel
theorem dX10_token_224 : decode cX10_token 224 = .ok (.putfield 167, 3) := by decide +kernel
theorem dX10_token_227 : decode cX10_token 227 = .ok (.goto (-78), 3) := by decide +kernel
theorem dX10_token_230 : decode cX10_token 230 = .ok (.aload_n 0, 1) := by decide +kernel
theorem dX10_token_231 : decode cX10_token 231 = .ok (.aload_n 0, 1) := by decide +kernel
theorem dX10_token_232 : decode cX10_token 232 = .ok (.getfield 31, 3) := by decide +kernel
theorem dX10_token_235 : decode cX10_token 235 = .ok (.aload_n 0, 1) := by decide +kernel
theorem dX10_token_236 : decode cX10_token 236 = .ok (.getfield 167, 3) := by decide +kernel
theorem dX10_token_239 : decode cX10_token 239 = .ok (.iaload, 1) := by decide +kernel
theorem dX10_token_240 : decode cX10_token 240 = .ok (.bipush 59, 2) := by decide +kernel
theorem dX10_token_242 : decode cX10_token 242 = .ok (.if_icmp .ne 7, 3) := by decide +kernel
theorem dX10_token_245 : decode cX10_token 245 = .ok (.iconst 3, 1) := by decide +kernel
theorem dX10_token_246 : decode cX10_token 246 = .ok (.goto 4, 3) := by decide +kernel
theorem dX10_token_249 : decode cX10_token 249 = .ok (.iconst 4, 1) := by decide +kernel
theorem dX10_token_250 : decode cX10_token 250 = .ok (.putfield 176, 3) := by decide +kernel
theorem dX10_token_253 : decode cX10_token 253 = .ok (.aload_n 0, 1) := by decide +kernel
theorem dX10_token_254 : decode cX10_token 254 = .ok (.dup, 1) := by decide +kernel
theorem dX10_token_255 : decode cX10_token 255 = .ok (.getfield 167, 3) := by decide +kernel
theorem dX10_token_258 : decode cX10_token 258 = .ok (.iconst 1, 1) := by decide +kernel
theorem dX10_token_259 : decode cX10_token 259 = .ok (.iadd, 1) := by decide +kernel
theorem dX10_token_260 : decode cX10_token 260 = .ok (.putfield 167, 3) := by decide +kernel
theorem dX10_token_263 : decode cX10_token 263 = .ok (.return_, 1) := by decide +kernel
theorem dX10_wrong_0 : decode cX10_wrong 0 = .ok (.aload_n 0, 1) := by decide +kernel
theorem dX10_wrong_1 : decode cX10_wrong 1 = .ok (.aload_n 0, 1) := by decide +kernel
theorem dX10_wrong_2 : decode cX10_wrong 2 = .ok (.getfield 170, 3) := by decide +kernel
theorem dX10_wrong_5 : decode cX10_wrong 5 = .ok (.putfield 186, 3) := by decide +kernel
theorem dX10_wrong_8 : decode cX10_wrong 8 = .ok (.iconst 0, 1) := by decide +kernel
theorem dX10_wrong_9 : decode cX10_wrong 9 = .ok (.ireturn, 1) := by decide +kernel
theorem dX10_isWord_0 : decode cX10_isWord 0 = .ok (.aload_n 0, 1) := by decide +kernel
theorem dX10_isWord_1 : decode cX10_isWord 1 = .ok (.getfield 176, 3) := by decide +kernel
theorem dX10_isWord_4 : decode cX10_isWord 4 = .ok (.iconst 1, 1) := by decide +kernel
theorem dX10_isWord_5 : decode cX10_isWord 5 = .ok (.if_icmp .ne 19, 3) := by decide +kernel
theorem dX10_isWord_8 : decode cX10_isWord 8 = .ok (.aload_n 0, 1) := by decide +kernel
theorem dX10_isWord_9 : decode cX10_isWord 9 = .ok (.getfield 167, 3) := by decide +kernel
theorem dX10_isWord_12 : decode cX10_isWord 12 = .ok (.aload_n 0, 1) := by decide +kernel
theorem dX10_isWord_13 : decode cX10_isWord 13 = .ok (.getfield 170, 3) := by decide +kernel
theorem dX10_isWord_16 : decode cX10_isWord 16 = .ok (.isub, 1) := by decide +kernel
theorem dX10_isWord_17 : decode cX10_isWord 17 = .ok (.aload_n 1, 1) := by decide +kernel
theorem dX10_isWord_18 : decode cX10_isWord 18 = .ok (.invokevirtual 189, 3) := by decide +kernel
theorem dX10_isWord_21 : decode cX10_isWord 21 = .ok (.if_icmp .eq 5, 3) := by decide +kernel
theorem dX10_isWord_24 : decode cX10_isWord 24 = .ok (.iconst 0, 1) := by decide +kernel
theorem dX10_isWord_25 : decode cX10_isWord 25 = .ok (.ireturn, 1) := by decide +kernel
theorem dX10_isWord_26 : decode cX10_isWord 26 = .ok (.iconst 0, 1) := by decide +kernel
theorem dX10_isWord_27 : decode cX10_isWord 27 = .ok (.istore_n 2, 1) := by decide +kernel
theorem dX10_isWord_28 : decode cX10_isWord 28 = .ok (.iload_n 2, 1) := by decide +kernel
theorem dX10_isWord_29 : decode cX10_isWord 29 = .ok (.aload_n 1, 1) := by decide +kernel
theorem dX10_isWord_30 : decode cX10_isWord 30 = .ok (.invokevirtual 189, 3) := by decide +kernel
theorem dX10_isWord_33 : decode cX10_isWord 33 = .ok (.if_icmp .ge 30, 3) := by decide +kernel
theorem dX10_isWord_36 : decode cX10_isWord 36 = .ok (.aload_n 0, 1) := by decide +kernel
theorem dX10_isWord_37 : decode cX10_isWord 37 = .ok (.getfield 31, 3) := by decide +kernel
theorem dX10_isWord_40 : decode cX10_isWord 40 = .ok (.aload_n 0, 1) := by decide +kernel
theorem dX10_isWord_41 : decode cX10_isWord 41 = .ok (.getfield 170, 3) := by decide +kernel
theorem dX10_isWord_44 : decode cX10_isWord 44 = .ok (.iload_n 2, 1) := by decide +kernel
theorem dX10_isWord_45 : decode cX10_isWord 45 = .ok (.iadd, 1) := by decide +kernel
theorem dX10_isWord_46 : decode cX10_isWord 46 = .ok (.iaload, 1) := by decide +kernel
theorem dX10_isWord_47 : decode cX10_isWord 47 = .ok (.aload_n 1, 1) := by decide +kernel
theorem dX10_isWord_48 : decode cX10_isWord 48 = .ok (.iload_n 2, 1) := by decide +kernel
theorem dX10_isWord_49 : decode cX10_isWord 49 = .ok (.invokevirtual 195, 3) := by decide +kernel
theorem dX10_isWord_52 : decode cX10_isWord 52 = .ok (.if_icmp .eq 5, 3) := by decide +kernel
theorem dX10_isWord_55 : decode cX10_isWord 55 = .ok (.iconst 0, 1) := by decide +kernel
theorem dX10_isWord_56 : decode cX10_isWord 56 = .ok (.ireturn, 1) := by decide +kernel
theorem dX10_isWord_57 : decode cX10_isWord 57 = .ok (.iinc 2 1, 3) := by decide +kernel
theorem dX10_isWord_60 : decode cX10_isWord 60 = .ok (.goto (-32), 3) := by decide +kernel
theorem dX10_isWord_63 : decode cX10_isWord 63 = .ok (.iconst 1, 1) := by decide +kernel
theorem dX10_isWord_64 : decode cX10_isWord 64 = .ok (.ireturn, 1) := by decide +kernel
theorem dX10_number_0 : decode cX10_number 0 = .ok (.aload_n 0, 1) := by decide +kernel
theorem dX10_number_1 : decode cX10_number 1 = .ok (.getfield 176, 3) := by decide +kernel
theorem dX10_number_4 : decode cX10_number 4 = .ok (.iconst 2, 1) := by decide +kernel
theorem dX10_number_5 : decode cX10_number 5 = .ok (.if_icmp .ne 18, 3) := by decide +kernel
theorem dX10_number_8 : decode cX10_number 8 = .ok (.aload_n 0, 1) := by decide +kernel
theorem dX10_number_9 : decode cX10_number 9 = .ok (.getfield 173, 3) := by decide +kernel
theorem dX10_number_12 : decode cX10_number 12 = .ok (.i2l, 1) := by decide +kernel
theorem dX10_number_13 : decode cX10_number 13 = .ok (.iload_n 2, 1) := by decide +kernel
theorem dX10_number_14 : decode cX10_number 14 = .ok (.i2l, 1) := by decide +kernel
theorem dX10_number_15 : decode cX10_number 15 = .ok (.iload_n 3, 1) := by decide +kernel
theorem dX10_number_16 : decode cX10_number 16 = .ok (.i2l, 1) := by decide +kernel
theorem dX10_number_17 : decode cX10_number 17 = .ok (.invokestatic 91, 3) := by decide +kernel
theorem dX10_number_20 : decode cX10_number 20 = .ok (.ifCond .ne 8, 3) := by decide +kernel
theorem dX10_number_23 : decode cX10_number 23 = .ok (.aload_n 0, 1) := by decide +kernel
theorem dX10_number_24 : decode cX10_number 24 = .ok (.invokevirtual 199, 3) := by decide +kernel
theorem dX10_number_27 : decode cX10_number 27 = .ok (.ireturn, 1) := by decide +kernel
theorem dX10_number_28 : decode cX10_number 28 = .ok (.aload_n 0, 1) := by decide +kernel
theorem dX10_number_29 : decode cX10_number 29 = .ok (.getfield 73, 3) := by decide +kernel
theorem dX10_number_32 : decode cX10_number 32 = .ok (.iload_n 1, 1) := by decide +kernel
theorem dX10_number_33 : decode cX10_number 33 = .ok (.aload_n 0, 1) := by decide +kernel
theorem dX10_number_34 : decode cX10_number 34 = .ok (.getfield 173, 3) := by decide +kernel
theorem dX10_number_37 : decode cX10_number 37 = .ok (.iastore, 1) := by decide +kernel
theorem dX10_number_38 : decode cX10_number 38 = .ok (.aload_n 0, 1) := by decide +kernel
theorem dX10_number_39 : decode cX10_number 39 = .ok (.invokevirtual 203, 3) := by decide +kernel
theorem dX10_number_42 : decode cX10_number 42 = .ok (.iconst 1, 1) := by decide +kernel
theorem dX10_number_43 : decode cX10_number 43 = .ok (.ireturn, 1) := by decide +kernel
theorem dX10_tells_0 : decode cX10_tells 0 = .ok (.aload_n 0, 1) := by decide +kernel
theorem dX10_tells_1 : decode cX10_tells 1 = .ok (.invokevirtual 203, 3) := by decide +kernel
theorem dX10_tells_4 : decode cX10_tells 4 = .ok (.aload_n 0, 1) := by decide +kernel
theorem dX10_tells_5 : decode cX10_tells 5 = .ok (.iconst 0, 1) := by decide +kernel
theorem dX10_tells_6 : decode cX10_tells 6 = .ok (.iload_n 1, 1) := by decide +kernel
theorem dX10_tells_7 : decode cX10_tells 7 = .ok (.iload_n 2, 1) := by decide +kernel
theorem dX10_tells_8 : decode cX10_tells 8 = .ok (.invokevirtual 205, 3) := by decide +kernel
theorem dX10_tells_11 : decode cX10_tells 11 = .ok (.ireturn, 1) := by decide +kernel
theorem dX10_callTold_0 : decode cX10_callTold 0 = .ok (.aload_n 0, 1) := by decide +kernel
theorem dX10_callTold_1 : decode cX10_callTold 1 = .ok (.invokevirtual 203, 3) := by decide +kernel
theorem dX10_callTold_4 : decode cX10_callTold 4 = .ok (.aload_n 0, 1) := by decide +kernel
theorem dX10_callTold_5 : decode cX10_callTold 5 = .ok (.getfield 167, 3) := by decide +kernel
theorem dX10_callTold_8 : decode cX10_callTold 8 = .ok (.aload_n 0, 1) := by decide +kernel
theorem dX10_callTold_9 : decode cX10_callTold 9 = .ok (.getfield 170, 3) := by decide +kernel
theorem dX10_callTold_12 : decode cX10_callTold 12 = .ok (.isub, 1) := by decide +kernel
theorem dX10_callTold_13 : decode cX10_callTold 13 = .ok (.istore_n 1, 1) := by decide +kernel
theorem dX10_callTold_14 : decode cX10_callTold 14 = .ok (.aload_n 0, 1) := by decide +kernel
theorem dX10_callTold_15 : decode cX10_callTold 15 = .ok (.getfield 176, 3) := by decide +kernel
theorem dX10_callTold_18 : decode cX10_callTold 18 = .ok (.iconst 1, 1) := by decide +kernel
theorem dX10_callTold_19 : decode cX10_callTold 19 = .ok (.if_icmp .ne 9, 3) := by decide +kernel
theorem dX10_callTold_22 : decode cX10_callTold 22 = .ok (.iload_n 1, 1) := by decide +kernel
theorem dX10_callTold_23 : decode cX10_callTold 23 = .ok (.bipush 8, 2) := by decide +kernel
theorem dX10_callTold_25 : decode cX10_callTold 25 = .ok (.if_icmp .le 8, 3) := by decide +kernel
theorem dX10_callTold_28 : decode cX10_callTold 28 = .ok (.aload_n 0, 1) := by decide +kernel
theorem dX10_callTold_29 : decode cX10_callTold 29 = .ok (.invokevirtual 199, 3) := by decide +kernel
theorem dX10_callTold_32 : decode cX10_callTold 32 = .ok (.ireturn, 1) := by decide +kernel
theorem dX10_callTold_33 : decode cX10_callTold 33 = .ok (.iconst 0, 1) := by decide +kernel
theorem dX10_callTold_34 : decode cX10_callTold 34 = .ok (.istore_n 2, 1) := by decide +kernel
theorem dX10_callTold_35 : decode cX10_callTold 35 = .ok (.iload_n 2, 1) := by decide +kernel
theorem dX10_callTold_36 : decode cX10_callTold 36 = .ok (.iload_n 1, 1) := by decide +kernel
theorem dX10_callTold_37 : decode cX10_callTold 37 = .ok (.if_icmp .ge 55, 3) := by decide +kernel
theorem dX10_callTold_40 : decode cX10_callTold 40 = .ok (.aload_n 0, 1) := by decide +kernel
theorem dX10_callTold_41 : decode cX10_callTold 41 = .ok (.getfield 31, 3) := by decide +kernel
theorem dX10_callTold_44 : decode cX10_callTold 44 = .ok (.aload_n 0, 1) := by decide +kernel
theorem dX10_callTold_45 : decode cX10_callTold 45 = .ok (.getfield 170, 3) := by decide +kernel
theorem dX10_callTold_48 : decode cX10_callTold 48 = .ok (.iload_n 2, 1) := by decide +kernel
theorem dX10_callTold_49 : decode cX10_callTold 49 = .ok (.iadd, 1) := by decide +kernel
theorem dX10_callTold_50 : decode cX10_callTold 50 = .ok (.iaload, 1) := by decide +kernel
theorem dX10_callTold_51 : decode cX10_callTold 51 = .ok (.bipush 101, 2) := by decide +kernel
theorem dX10_callTold_53 : decode cX10_callTold 53 = .ok (.if_icmp .le 8, 3) := by decide +kernel
theorem dX10_callTold_56 : decode cX10_callTold 56 = .ok (.aload_n 0, 1) := by decide +kernel
theorem dX10_callTold_57 : decode cX10_callTold 57 = .ok (.invokevirtual 199, 3) := by decide +kernel
theorem dX10_callTold_60 : decode cX10_callTold 60 = .ok (.ireturn, 1) := by decide +kernel
theorem dX10_callTold_61 : decode cX10_callTold 61 = .ok (.aload_n 0, 1) := by decide +kernel
theorem dX10_callTold_62 : decode cX10_callTold 62 = .ok (.getfield 39, 3) := by decide +kernel
theorem dX10_callTold_65 : decode cX10_callTold 65 = .ok (.aload_n 0, 1) := by decide +kernel
theorem dX10_callTold_66 : decode cX10_callTold 66 = .ok (.getfield 88, 3) := by decide +kernel
theorem dX10_callTold_69 : decode cX10_callTold 69 = .ok (.aaload, 1) := by decide +kernel
theorem dX10_callTold_70 : decode cX10_callTold 70 = .ok (.iload_n 2, 1) := by decide +kernel
theorem dX10_callTold_71 : decode cX10_callTold 71 = .ok (.aload_n 0, 1) := by decide +kernel
theorem dX10_callTold_72 : decode cX10_callTold 72 = .ok (.getfield 31, 3) := by decide +kernel
theorem dX10_callTold_75 : decode cX10_callTold 75 = .ok (.aload_n 0, 1) := by decide +kernel
theorem dX10_callTold_76 : decode cX10_callTold 76 = .ok (.getfield 170, 3) := by decide +kernel
theorem dX10_callTold_79 : decode cX10_callTold 79 = .ok (.iload_n 2, 1) := by decide +kernel
theorem dX10_callTold_80 : decode cX10_callTold 80 = .ok (.iadd, 1) := by decide +kernel
theorem dX10_callTold_81 : decode cX10_callTold 81 = .ok (.iaload, 1) := by decide +kernel
theorem dX10_callTold_82 : decode cX10_callTold 82 = .ok (.bipush 97, 2) := by decide +kernel
theorem dX10_callTold_84 : decode cX10_callTold 84 = .ok (.isub, 1) := by decide +kernel
theorem dX10_callTold_85 : decode cX10_callTold 85 = .ok (.iastore, 1) := by decide +kernel
theorem dX10_callTold_86 : decode cX10_callTold 86 = .ok (.iinc 2 1, 3) := by decide +kernel
theorem dX10_callTold_89 : decode cX10_callTold 89 = .ok (.goto (-54), 3) := by decide +kernel
theorem dX10_callTold_92 : decode cX10_callTold 92 = .ok (.aload_n 0, 1) := by decide +kernel
theorem dX10_callTold_93 : decode cX10_callTold 93 = .ok (.invokevirtual 203, 3) := by decide +kernel
theorem dX10_callTold_96 : decode cX10_callTold 96 = .ok (.aload_n 0, 1) := by decide +kernel
theorem dX10_callTold_97 : decode cX10_callTold 97 = .ok (.iconst 0, 1) := by decide +kernel
theorem dX10_callTold_98 : decode cX10_callTold 98 = .ok (.iconst 1, 1) := by decide +kernel
theorem dX10_callTold_99 : decode cX10_callTold 99 = .ok (.bipush 99, 2) := by decide +kernel
theorem dX10_callTold_101 : decode cX10_callTold 101 = .ok (.invokevirtual 205, 3) := by decide +kernel
theorem dX10_callTold_104 : decode cX10_callTold 104 = .ok (.ifCond .eq 14, 3) := by decide +kernel
theorem dX10_callTold_107 : decode cX10_callTold 107 = .ok (.aload_n 0, 1) := by decide +kernel
theorem dX10_callTold_108 : decode cX10_callTold 108 = .ok (.iconst 1, 1) := by decide +kernel
theorem dX10_callTold_109 : decode cX10_callTold 109 = .ok (.iconst 0, 1) := by decide +kernel
theorem dX10_callTold_110 : decode cX10_callTold 110 = .ok (.bipush 99, 2) := by decide +kernel
theorem dX10_callTold_112 : decode cX10_callTold 112 = .ok (.invokevirtual 205, 3) := by decide +kernel
theorem dX10_callTold_115 : decode cX10_callTold 115 = .ok (.ifCond .ne 5, 3) := by decide +kernel
theorem dX10_callTold_118 : decode cX10_callTold 118 = .ok (.iconst 0, 1) := by decide +kernel
theorem dX10_callTold_119 : decode cX10_callTold 119 = .ok (.ireturn, 1) := by decide +kernel
theorem dX10_callTold_120 : decode cX10_callTold 120 = .ok (.aload_n 0, 1) := by decide +kernel
theorem dX10_callTold_121 : decode cX10_callTold 121 = .ok (.iload_n 1, 1) := by decide +kernel
theorem dX10_callTold_122 : decode cX10_callTold 122 = .ok (.aload_n 0, 1) := by decide +kernel
theorem dX10_callTold_123 : decode cX10_callTold 123 = .ok (.getfield 73, 3) := by decide +kernel
theorem dX10_callTold_126 : decode cX10_callTold 126 = .ok (.iconst 0, 1) := by decide +kernel
theorem dX10_callTold_127 : decode cX10_callTold 127 = .ok (.iaload, 1) := by decide +kernel
theorem dX10_callTold_128 : decode cX10_callTold 128 = .ok (.aload_n 0, 1) := by decide +kernel
theorem dX10_callTold_129 : decode cX10_callTold 129 = .ok (.getfield 73, 3) := by decide +kernel
theorem dX10_callTold_132 : decode cX10_callTold 132 = .ok (.iconst 1, 1) := by decide +kernel
theorem dX10_callTold_133 : decode cX10_callTold 133 = .ok (.iaload, 1) := by decide +kernel
theorem dX10_callTold_134 : decode cX10_callTold 134 = .ok (.invokevirtual 143, 3) := by decide +kernel
theorem dX10_callTold_137 : decode cX10_callTold 137 = .ok (.iconst 1, 1) := by decide +kernel
theorem dX10_callTold_138 : decode cX10_callTold 138 = .ok (.ireturn, 1) := by decide +kernel
theorem dX10_statement_0 : decode cX10_statement 0 = .ok (.aload_n 0, 1) := by decide +kernel
theorem dX10_statement_1 : decode cX10_statement 1 = .ok (.ldc 208, 2) := by decide +kernel
theorem dX10_statement_3 : decode cX10_statement 3 = .ok (.invokevirtual 210, 3) := by decide +kernel
theorem dX10_statement_6 : decode cX10_statement 6 = .ok (.ifCond .eq 17, 3) := by decide +kernel
theorem dX10_statement_9 : decode cX10_statement 9 = .ok (.aload_n 0, 1) := by decide +kernel
theorem dX10_statement_10 : decode cX10_statement 10 = .ok (.getfield 88, 3) := by decide +kernel
theorem dX10_statement_13 : decode cX10_statement 13 = .ok (.bipush 12, 2) := by decide +kernel
theorem dX10_statement_15 : decode cX10_statement 15 = .ok (.if_icmp .ge 8, 3) := by decide +kernel
theorem dX10_statement_18 : decode cX10_statement 18 = .ok (.aload_n 0, 1) := by decide +kernel
theorem dX10_statement_19 : decode cX10_statement 19 = .ok (.invokevirtual 214, 3) := by decide +kernel
theorem dX10_statement_22 : decode cX10_statement 22 = .ok (.ireturn, 1) := by decide +kernel
theorem dX10_statement_23 : decode cX10_statement 23 = .ok (.aload_n 0, 1) := by decide +kernel
theorem dX10_statement_24 : decode cX10_statement 24 = .ok (.ldc 217, 2) := by decide +kernel
theorem dX10_statement_26 : decode cX10_statement 26 = .ok (.invokevirtual 210, 3) := by decide +kernel
theorem dX10_statement_29 : decode cX10_statement 29 = .ok (.ifCond .eq 52, 3) := by decide +kernel
theorem dX10_statement_32 : decode cX10_statement 32 = .ok (.aload_n 0, 1) := by decide +kernel
theorem dX10_statement_33 : decode cX10_statement 33 = .ok (.getfield 95, 3) := by decide +kernel
theorem dX10_statement_36 : decode cX10_statement 36 = .ok (.bipush 6, 2) := by decide +kernel
theorem dX10_statement_38 : decode cX10_statement 38 = .ok (.if_icmp .ge 43, 3) := by decide +kernel
theorem dX10_statement_41 : decode cX10_statement 41 = .ok (.aload_n 0, 1) := by decide +kernel
theorem dX10_statement_42 : decode cX10_statement 42 = .ok (.iconst 0, 1) := by decide +kernel
theorem dX10_statement_43 : decode cX10_statement 43 = .ok (.iconst 5, 1) := by decide +kernel
theorem dX10_statement_44 : decode cX10_statement 44 = .ok (.invokevirtual 219, 3) := by decide +kernel
theorem dX10_statement_47 : decode cX10_statement 47 = .ok (.ifCond .eq 14, 3) := by decide +kernel
theorem dX10_statement_50 : decode cX10_statement 50 = .ok (.aload_n 0, 1) := by decide +kernel
theorem dX10_statement_51 : decode cX10_statement 51 = .ok (.iconst 1, 1) := by decide +kernel
theorem dX10_statement_52 : decode cX10_statement 52 = .ok (.iconst 0, 1) := by decide +kernel
theorem dX10_statement_53 : decode cX10_statement 53 = .ok (.bipush 9, 2) := by decide +kernel
theorem dX10_statement_55 : decode cX10_statement 55 = .ok (.invokevirtual 205, 3) := by decide +kernel
theorem dX10_statement_58 : decode cX10_statement 58 = .ok (.ifCond .ne 5, 3) := by decide +kernel
theorem dX10_statement_61 : decode cX10_statement 61 = .ok (.iconst 0, 1) := by decide +kernel
theorem dX10_statement_62 : decode cX10_statement 62 = .ok (.ireturn, 1) := by decide +kernel
theorem dX10_statement_63 : decode cX10_statement 63 = .ok (.aload_n 0, 1) := by decide +kernel
theorem dX10_statement_64 : decode cX10_statement 64 = .ok (.aload_n 0, 1) := by decide +kernel
theorem dX10_statement_65 : decode cX10_statement 65 = .ok (.getfield 73, 3) := by decide +kernel
theorem dX10_statement_68 : decode cX10_statement 68 = .ok (.iconst 0, 1) := by decide +kernel
theorem dX10_statement_69 : decode cX10_statement 69 = .ok (.iaload, 1) := by decide +kernel
theorem dX10_statement_70 : decode cX10_statement 70 = .ok (.aload_n 0, 1) := by decide +kernel
theorem dX10_statement_71 : decode cX10_statement 71 = .ok (.getfield 73, 3) := by decide +kernel
theorem dX10_statement_74 : decode cX10_statement 74 = .ok (.iconst 1, 1) := by decide +kernel
theorem dX10_statement_75 : decode cX10_statement 75 = .ok (.iaload, 1) := by decide +kernel
theorem dX10_statement_76 : decode cX10_statement 76 = .ok (.invokevirtual 148, 3) := by decide +kernel
theorem dX10_statement_79 : decode cX10_statement 79 = .ok (.iconst 1, 1) := by decide +kernel
theorem dX10_statement_80 : decode cX10_statement 80 = .ok (.ireturn, 1) := by decide +kernel
theorem dX10_statement_81 : decode cX10_statement 81 = .ok (.aload_n 0, 1) := by decide +kernel
theorem dX10_statement_82 : decode cX10_statement 82 = .ok (.ldc 222, 2) := by decide +kernel
theorem dX10_statement_84 : decode cX10_statement 84 = .ok (.invokevirtual 210, 3) := by decide +kernel
theorem dX10_statement_87 : decode cX10_statement 87 = .ok (.ifCond .eq 56, 3) := by decide +kernel
theorem dX10_statement_90 : decode cX10_statement 90 = .ok (.aload_n 0, 1) := by decide +kernel
theorem dX10_statement_91 : decode cX10_statement 91 = .ok (.getfield 98, 3) := by decide +kernel
theorem dX10_statement_94 : decode cX10_statement 94 = .ok (.bipush 8, 2) := by decide +kernel
theorem dX10_statement_96 : decode cX10_statement 96 = .ok (.if_icmp .ge 47, 3) := by decide +kernel
theorem dX10_statement_99 : decode cX10_statement 99 = .ok (.aload_n 0, 1) := by decide +kernel
theorem dX10_statement_100 : decode cX10_statement 100 = .ok (.iconst 0, 1) := by decide +kernel
theorem dX10_statement_101 : decode cX10_statement 101 = .ok (.aload_n 0, 1) := by decide +kernel
theorem dX10_statement_102 : decode cX10_statement 102 = .ok (.getfield 95, 3) := by decide +kernel
theorem dX10_statement_105 : decode cX10_statement 105 = .ok (.iconst 1, 1) := by decide +kernel
theorem dX10_statement_106 : decode cX10_statement 106 = .ok (.isub, 1) := by decide +kernel
theorem dX10_statement_107 : decode cX10_statement 107 = .ok (.invokevirtual 219, 3) := by decide +kernel
theorem dX10_statement_110 : decode cX10_statement 110 = .ok (.ifCond .eq 13, 3) := by decide +kernel
theorem dX10_statement_113 : decode cX10_statement 113 = .ok (.aload_n 0, 1) := by decide +kernel
theorem dX10_statement_114 : decode cX10_statement 114 = .ok (.iconst 1, 1) := by decide +kernel
theorem dX10_statement_115 : decode cX10_statement 115 = .ok (.iconst 0, 1) := by decide +kernel
theorem dX10_statement_116 : decode cX10_statement 116 = .ok (.iconst 1, 1) := by decide +kernel
theorem dX10_statement_117 : decode cX10_statement 117 = .ok (.invokevirtual 205, 3) := by decide +kernel
theorem dX10_statement_120 : decode cX10_statement 120 = .ok (.ifCond .ne 5, 3) := by decide +kernel
theorem dX10_statement_123 : decode cX10_statement 123 = .ok (.iconst 0, 1) := by decide +kernel
theorem dX10_statement_124 : decode cX10_statement 124 = .ok (.ireturn, 1) := by decide +kernel
theorem dX10_statement_125 : decode cX10_statement 125 = .ok (.aload_n 0, 1) := by decide +kernel
theorem dX10_statement_126 : decode cX10_statement 126 = .ok (.aload_n 0, 1) := by decide +kernel
theorem dX10_statement_127 : decode cX10_statement 127 = .ok (.getfield 73, 3) := by decide +kernel
theorem dX10_statement_130 : decode cX10_statement 130 = .ok (.iconst 0, 1) := by decide +kernel
theorem dX10_statement_131 : decode cX10_statement 131 = .ok (.iaload, 1) := by decide +kernel
theorem dX10_statement_132 : decode cX10_statement 132 = .ok (.aload_n 0, 1) := by decide +kernel
theorem dX10_statement_133 : decode cX10_statement 133 = .ok (.getfield 73, 3) := by decide +kernel
theorem dX10_statement_136 : decode cX10_statement 136 = .ok (.iconst 1, 1) := by decide +kernel
theorem dX10_statement_137 : decode cX10_statement 137 = .ok (.iaload, 1) := by decide +kernel
theorem dX10_statement_138 : decode cX10_statement 138 = .ok (.invokevirtual 152, 3) := by decide +kernel
theorem dX10_statement_141 : decode cX10_statement 141 = .ok (.iconst 1, 1) := by decide +kernel
theorem dX10_statement_142 : decode cX10_statement 142 = .ok (.ireturn, 1) := by decide +kernel
theorem dX10_statement_143 : decode cX10_statement 143 = .ok (.aload_n 0, 1) := by decide +kernel
theorem dX10_statement_144 : decode cX10_statement 144 = .ok (.ldc 224, 2) := by decide +kernel
theorem dX10_statement_146 : decode cX10_statement 146 = .ok (.invokevirtual 210, 3) := by decide +kernel
theorem dX10_statement_149 : decode cX10_statement 149 = .ok (.ifCond .eq 35, 3) := by decide +kernel
theorem dX10_statement_152 : decode cX10_statement 152 = .ok (.aload_n 0, 1) := by decide +kernel
theorem dX10_statement_153 : decode cX10_statement 153 = .ok (.iconst 0, 1) := by decide +kernel
theorem dX10_statement_154 : decode cX10_statement 154 = .ok (.sipush 1000, 3) := by decide +kernel
theorem dX10_statement_157 : decode cX10_statement 157 = .ok (.invokevirtual 219, 3) := by decide +kernel
theorem dX10_statement_160 : decode cX10_statement 160 = .ok (.istore_n 1, 1) := by decide +kernel
theorem dX10_statement_161 : decode cX10_statement 161 = .ok (.aload_n 0, 1) := by decide +kernel
theorem dX10_statement_162 : decode cX10_statement 162 = .ok (.iload_n 1, 1) := by decide +kernel
theorem dX10_statement_163 : decode cX10_statement 163 = .ok (.ifCond .eq 12, 3) := by decide +kernel
theorem dX10_statement_166 : decode cX10_statement 166 = .ok (.aload_n 0, 1) := by decide +kernel
theorem dX10_statement_167 : decode cX10_statement 167 = .ok (.getfield 73, 3) := by decide +kernel
theorem dX10_statement_170 : decode cX10_statement 170 = .ok (.iconst 0, 1) := by decide +kernel
theorem dX10_statement_171 : decode cX10_statement 171 = .ok (.iaload, 1) := by decide +kernel
theorem dX10_statement_172 : decode cX10_statement 172 = .ok (.goto 7, 3) := by decide +kernel
theorem dX10_statement_175 : decode cX10_statement 175 = .ok (.aload_n 0, 1) := by decide +kernel
theorem dX10_statement_176 : decode cX10_statement 176 = .ok (.getfield 63, 3) := by decide +kernel
theorem dX10_statement_179 : decode cX10_statement 179 = .ok (.putfield 63, 3) := by decide +kernel
theorem dX10_statement_182 : decode cX10_statement 182 = .ok (.iload_n 1, 1) := by decide +kernel
theorem dX10_statement_183 : decode cX10_statement 183 = .ok (.ireturn, 1) := by decide +kernel
theorem dX10_statement_184 : decode cX10_statement 184 = .ok (.aload_n 0, 1) := by decide +kernel
theorem dX10_statement_185 : decode cX10_statement 185 = .ok (.ldc 225, 2) := by decide +kernel
theorem dX10_statement_187 : decode cX10_statement 187 = .ok (.invokevirtual 210, 3) := by decide +kernel
theorem dX10_statement_190 : decode cX10_statement 190 = .ok (.ifCond .eq 34, 3) := by decide +kernel
theorem dX10_statement_193 : decode cX10_statement 193 = .ok (.aload_n 0, 1) := by decide +kernel
theorem dX10_statement_194 : decode cX10_statement 194 = .ok (.iconst 0, 1) := by decide +kernel
theorem dX10_statement_195 : decode cX10_statement 195 = .ok (.bipush 100, 2) := by decide +kernel
theorem dX10_statement_197 : decode cX10_statement 197 = .ok (.invokevirtual 219, 3) := by decide +kernel
theorem dX10_statement_200 : decode cX10_statement 200 = .ok (.istore_n 1, 1) := by decide +kernel
theorem dX10_statement_201 : decode cX10_statement 201 = .ok (.aload_n 0, 1) := by decide +kernel
theorem dX10_statement_202 : decode cX10_statement 202 = .ok (.iload_n 1, 1) := by decide +kernel
theorem dX10_statement_203 : decode cX10_statement 203 = .ok (.ifCond .eq 12, 3) := by decide +kernel
theorem dX10_statement_206 : decode cX10_statement 206 = .ok (.aload_n 0, 1) := by decide +kernel
theorem dX10_statement_207 : decode cX10_statement 207 = .ok (.getfield 73, 3) := by decide +kernel
theorem dX10_statement_210 : decode cX10_statement 210 = .ok (.iconst 0, 1) := by decide +kernel
theorem dX10_statement_211 : decode cX10_statement 211 = .ok (.iaload, 1) := by decide +kernel
theorem dX10_statement_212 : decode cX10_statement 212 = .ok (.goto 7, 3) := by decide +kernel
theorem dX10_statement_215 : decode cX10_statement 215 = .ok (.aload_n 0, 1) := by decide +kernel
theorem dX10_statement_216 : decode cX10_statement 216 = .ok (.getfield 67, 3) := by decide +kernel
theorem dX10_statement_219 : decode cX10_statement 219 = .ok (.putfield 67, 3) := by decide +kernel
theorem dX10_statement_222 : decode cX10_statement 222 = .ok (.iload_n 1, 1) := by decide +kernel
theorem dX10_statement_223 : decode cX10_statement 223 = .ok (.ireturn, 1) := by decide +kernel
theorem dX10_statement_224 : decode cX10_statement 224 = .ok (.aload_n 0, 1) := by decide +kernel
theorem dX10_statement_225 : decode cX10_statement 225 = .ok (.ldc 226, 2) := by decide +kernel
theorem dX10_statement_227 : decode cX10_statement 227 = .ok (.invokevirtual 210, 3) := by decide +kernel
theorem dX10_statement_230 : decode cX10_statement 230 = .ok (.ifCond .eq 49, 3) := by decide +kernel
theorem dX10_statement_233 : decode cX10_statement 233 = .ok (.aload_n 0, 1) := by decide +kernel
theorem dX10_statement_234 : decode cX10_statement 234 = .ok (.iconst 0, 1) := by decide +kernel
theorem dX10_statement_235 : decode cX10_statement 235 = .ok (.aload_n 0, 1) := by decide +kernel
theorem dX10_statement_236 : decode cX10_statement 236 = .ok (.getfield 88, 3) := by decide +kernel
theorem dX10_statement_239 : decode cX10_statement 239 = .ok (.iconst 1, 1) := by decide +kernel
theorem dX10_statement_240 : decode cX10_statement 240 = .ok (.isub, 1) := by decide +kernel
theorem dX10_statement_241 : decode cX10_statement 241 = .ok (.invokevirtual 219, 3) := by decide +kernel
theorem dX10_statement_244 : decode cX10_statement 244 = .ok (.ifCond .eq 14, 3) := by decide +kernel
theorem dX10_statement_247 : decode cX10_statement 247 = .ok (.aload_n 0, 1) := by decide +kernel
theorem dX10_statement_248 : decode cX10_statement 248 = .ok (.iconst 1, 1) := by decide +kernel
theorem dX10_statement_249 : decode cX10_statement 249 = .ok (.iconst 1, 1) := by decide +kernel
theorem dX10_statement_250 : decode cX10_statement 250 = .ok (.bipush 99, 2) := by decide +kernel
theorem dX10_statement_252 : decode cX10_statement 252 = .ok (.invokevirtual 205, 3) := by decide +kernel
theorem dX10_statement_255 : decode cX10_statement 255 = .ok (.ifCond .ne 5, 3) := by decide +kernel
theorem dX10_statement_258 : decode cX10_statement 258 = .ok (.iconst 0, 1) := by decide +kernel
theorem dX10_statement_259 : decode cX10_statement 259 = .ok (.ireturn, 1) := by decide +kernel
theorem dX10_statement_260 : decode cX10_statement 260 = .ok (.aload_n 0, 1) := by decide +kernel
theorem dX10_statement_261 : decode cX10_statement 261 = .ok (.getfield 45, 3) := by decide +kernel
theorem dX10_statement_264 : decode cX10_statement 264 = .ok (.aload_n 0, 1) := by decide +kernel
theorem dX10_statement_265 : decode cX10_statement 265 = .ok (.getfield 73, 3) := by decide +kernel
theorem dX10_statement_268 : decode cX10_statement 268 = .ok (.iconst 0, 1) := by decide +kernel
theorem dX10_statement_269 : decode cX10_statement 269 = .ok (.iaload, 1) := by decide +kernel
theorem dX10_statement_270 : decode cX10_statement 270 = .ok (.aload_n 0, 1) := by decide +kernel
theorem dX10_statement_271 : decode cX10_statement 271 = .ok (.getfield 73, 3) := by decide +kernel
theorem dX10_statement_274 : decode cX10_statement 274 = .ok (.iconst 1, 1) := by decide +kernel
theorem dX10_statement_275 : decode cX10_statement 275 = .ok (.iaload, 1) := by decide +kernel
theorem dX10_statement_276 : decode cX10_statement 276 = .ok (.iastore, 1) := by decide +kernel
theorem dX10_statement_277 : decode cX10_statement 277 = .ok (.iconst 1, 1) := by decide +kernel
theorem dX10_statement_278 : decode cX10_statement 278 = .ok (.ireturn, 1) := by decide +kernel
theorem dX10_statement_279 : decode cX10_statement 279 = .ok (.aload_n 0, 1) := by decide +kernel
theorem dX10_statement_280 : decode cX10_statement 280 = .ok (.invokevirtual 199, 3) := by decide +kernel
theorem dX10_statement_283 : decode cX10_statement 283 = .ok (.ireturn, 1) := by decide +kernel
theorem dX10_readAll_0 : decode cX10_readAll 0 = .ok (.aload_n 0, 1) := by decide +kernel
theorem dX10_readAll_1 : decode cX10_readAll 1 = .ok (.iconst 1, 1) := by decide +kernel
theorem dX10_readAll_2 : decode cX10_readAll 2 = .ok (.putfield 227, 3) := by decide +kernel
theorem dX10_readAll_5 : decode cX10_readAll 5 = .ok (.aload_n 0, 1) := by decide +kernel
theorem dX10_readAll_6 : decode cX10_readAll 6 = .ok (.iconst 0, 1) := by decide +kernel
theorem dX10_readAll_7 : decode cX10_readAll 7 = .ok (.putfield 167, 3) := by decide +kernel
theorem dX10_readAll_10 : decode cX10_readAll 10 = .ok (.aload_n 0, 1) := by decide +kernel
theorem dX10_readAll_11 : decode cX10_readAll 11 = .ok (.invokevirtual 203, 3) := by decide +kernel
theorem dX10_readAll_14 : decode cX10_readAll 14 = .ok (.aload_n 0, 1) := by decide +kernel
theorem dX10_readAll_15 : decode cX10_readAll 15 = .ok (.invokevirtual 230, 3) := by decide +kernel
theorem dX10_readAll_18 : decode cX10_readAll 18 = .ok (.ifCond .ne 5, 3) := by decide +kernel
theorem dX10_readAll_21 : decode cX10_readAll 21 = .ok (.iconst 0, 1) := by decide +kernel
theorem dX10_readAll_22 : decode cX10_readAll 22 = .ok (.ireturn, 1) := by decide +kernel
theorem dX10_readAll_23 : decode cX10_readAll 23 = .ok (.aload_n 0, 1) := by decide +kernel
theorem dX10_readAll_24 : decode cX10_readAll 24 = .ok (.getfield 176, 3) := by decide +kernel
theorem dX10_readAll_27 : decode cX10_readAll 27 = .ok (.ifCond .eq 42, 3) := by decide +kernel
theorem dX10_readAll_30 : decode cX10_readAll 30 = .ok (.aload_n 0, 1) := by decide +kernel
theorem dX10_readAll_31 : decode cX10_readAll 31 = .ok (.getfield 176, 3) := by decide +kernel
theorem dX10_readAll_34 : decode cX10_readAll 34 = .ok (.iconst 3, 1) := by decide +kernel
theorem dX10_readAll_35 : decode cX10_readAll 35 = .ok (.if_icmp .eq 8, 3) := by decide +kernel
theorem dX10_readAll_38 : decode cX10_readAll 38 = .ok (.aload_n 0, 1) := by decide +kernel
theorem dX10_readAll_39 : decode cX10_readAll 39 = .ok (.invokevirtual 199, 3) := by decide +kernel
theorem dX10_readAll_42 : decode cX10_readAll 42 = .ok (.ireturn, 1) := by decide +kernel
theorem dX10_readAll_43 : decode cX10_readAll 43 = .ok (.aload_n 0, 1) := by decide +kernel
theorem dX10_readAll_44 : decode cX10_readAll 44 = .ok (.invokevirtual 203, 3) := by decide +kernel
theorem dX10_readAll_47 : decode cX10_readAll 47 = .ok (.aload_n 0, 1) := by decide +kernel
theorem dX10_readAll_48 : decode cX10_readAll 48 = .ok (.invokevirtual 230, 3) := by decide +kernel
theorem dX10_readAll_51 : decode cX10_readAll 51 = .ok (.ifCond .ne 5, 3) := by decide +kernel
theorem dX10_readAll_54 : decode cX10_readAll 54 = .ok (.iconst 0, 1) := by decide +kernel
theorem dX10_readAll_55 : decode cX10_readAll 55 = .ok (.ireturn, 1) := by decide +kernel
theorem dX10_readAll_56 : decode cX10_readAll 56 = .ok (.aload_n 0, 1) := by decide +kernel
theorem dX10_readAll_57 : decode cX10_readAll 57 = .ok (.dup, 1) := by decide +kernel
theorem dX10_readAll_58 : decode cX10_readAll 58 = .ok (.getfield 227, 3) := by decide +kernel
theorem dX10_readAll_61 : decode cX10_readAll 61 = .ok (.iconst 1, 1) := by decide +kernel
theorem dX10_readAll_62 : decode cX10_readAll 62 = .ok (.iadd, 1) := by decide +kernel
theorem dX10_readAll_63 : decode cX10_readAll 63 = .ok (.putfield 227, 3) := by decide +kernel
theorem dX10_readAll_66 : decode cX10_readAll 66 = .ok (.goto (-43), 3) := by decide +kernel
theorem dX10_readAll_69 : decode cX10_readAll 69 = .ok (.iconst 1, 1) := by decide +kernel
theorem dX10_readAll_70 : decode cX10_readAll 70 = .ok (.ireturn, 1) := by decide +kernel
theorem dX10_fresh_0 : decode cX10_fresh 0 = .ok (.aload_n 0, 1) := by decide +kernel
theorem dX10_fresh_1 : decode cX10_fresh 1 = .ok (.getfield 233, 3) := by decide +kernel
theorem dX10_fresh_4 : decode cX10_fresh 4 = .ok (.ifnonnull 14, 3) := by decide +kernel
theorem dX10_fresh_7 : decode cX10_fresh 7 = .ok (.aload_n 0, 1) := by decide +kernel
theorem dX10_fresh_8 : decode cX10_fresh 8 = .ok (.new 8, 3) := by decide +kernel
theorem dX10_fresh_11 : decode cX10_fresh 11 = .ok (.dup, 1) := by decide +kernel
theorem dX10_fresh_12 : decode cX10_fresh 12 = .ok (.invokespecial 237, 3) := by decide +kernel
theorem dX10_fresh_15 : decode cX10_fresh 15 = .ok (.putfield 233, 3) := by decide +kernel
theorem dX10_fresh_18 : decode cX10_fresh 18 = .ok (.aload_n 0, 1) := by decide +kernel
theorem dX10_fresh_19 : decode cX10_fresh 19 = .ok (.getfield 233, 3) := by decide +kernel
theorem dX10_fresh_22 : decode cX10_fresh 22 = .ok (.aload_n 0, 1) := by decide +kernel
theorem dX10_fresh_23 : decode cX10_fresh 23 = .ok (.invokevirtual 238, 3) := by decide +kernel
theorem dX10_fresh_26 : decode cX10_fresh 26 = .ok (.aload_n 0, 1) := by decide +kernel
theorem dX10_fresh_27 : decode cX10_fresh 27 = .ok (.getfield 233, 3) := by decide +kernel
theorem dX10_fresh_30 : decode cX10_fresh 30 = .ok (.areturn, 1) := by decide +kernel
theorem dX10_camp_0 : decode cX10_camp 0 = .ok (.aload_n 0, 1) := by decide +kernel
theorem dX10_camp_1 : decode cX10_camp 1 = .ok (.invokevirtual 242, 3) := by decide +kernel
theorem dX10_camp_4 : decode cX10_camp 4 = .ok (.astore_n 1, 1) := by decide +kernel
theorem dX10_camp_5 : decode cX10_camp 5 = .ok (.aload_n 0, 1) := by decide +kernel
theorem dX10_camp_6 : decode cX10_camp 6 = .ok (.invokevirtual 246, 3) := by decide +kernel
theorem dX10_camp_9 : decode cX10_camp 9 = .ok (.istore_n 2, 1) := by decide +kernel
theorem dX10_camp_10 : decode cX10_camp 10 = .ok (.aload_n 0, 1) := by decide +kernel
theorem dX10_camp_11 : decode cX10_camp 11 = .ok (.iconst 0, 1) := by decide +kernel
theorem dX10_camp_12 : decode cX10_camp 12 = .ok (.putfield 164, 3) := by decide +kernel
theorem dX10_camp_15 : decode cX10_camp 15 = .ok (.iload_n 2, 1) := by decide +kernel
theorem dX10_camp_16 : decode cX10_camp 16 = .ok (.ifCond .ne 23, 3) := by decide +kernel
theorem dX10_camp_19 : decode cX10_camp 19 = .ok (.aload_n 0, 1) := by decide +kernel
theorem dX10_camp_20 : decode cX10_camp 20 = .ok (.aload_n 1, 1) := by decide +kernel
theorem dX10_camp_21 : decode cX10_camp 21 = .ok (.invokevirtual 238, 3) := by decide +kernel
theorem dX10_camp_24 : decode cX10_camp 24 = .ok (.aload_n 0, 1) := by decide +kernel
theorem dX10_camp_25 : decode cX10_camp 25 = .ok (.bipush (-2), 2) := by decide +kernel
theorem dX10_camp_27 : decode cX10_camp 27 = .ok (.invokevirtual 107, 3) := by decide +kernel
theorem dX10_camp_30 : decode cX10_camp 30 = .ok (.pop, 1) := by decide +kernel
theorem dX10_camp_31 : decode cX10_camp 31 = .ok (.bipush (-20), 2) := by decide +kernel
theorem dX10_camp_33 : decode cX10_camp 33 = .ok (.aload_n 0, 1) := by decide +kernel
theorem dX10_camp_34 : decode cX10_camp 34 = .ok (.getfield 186, 3) := by decide +kernel
theorem dX10_camp_37 : decode cX10_camp 37 = .ok (.isub, 1) := by decide +kernel
theorem dX10_camp_38 : decode cX10_camp 38 = .ok (.ireturn, 1) := by decide +kernel
theorem dX10_camp_39 : decode cX10_camp 39 = .ok (.aload_n 0, 1) := by decide +kernel
theorem dX10_camp_40 : decode cX10_camp 40 = .ok (.getfield 227, 3) := by decide +kernel
theorem dX10_camp_43 : decode cX10_camp 43 = .ok (.ireturn, 1) := by decide +kernel
theorem dX10_callOf_0 : decode cX10_callOf 0 = .ok (.aload_n 0, 1) := by decide +kernel
theorem dX10_callOf_1 : decode cX10_callOf 1 = .ok (.iload_n 1, 1) := by decide +kernel
theorem dX10_callOf_2 : decode cX10_callOf 2 = .ok (.invokevirtual 155, 3) := by decide +kernel
theorem dX10_callOf_5 : decode cX10_callOf 5 = .ok (.ifCond .ne 10, 3) := by decide +kernel
theorem dX10_callOf_8 : decode cX10_callOf 8 = .ok (.aload_n 0, 1) := by decide +kernel
theorem dX10_callOf_9 : decode cX10_callOf 9 = .ok (.bipush (-2), 2) := by decide +kernel
theorem dX10_callOf_11 : decode cX10_callOf 11 = .ok (.invokevirtual 107, 3) := by decide +kernel
theorem dX10_callOf_14 : decode cX10_callOf 14 = .ok (.ireturn, 1) := by decide +kernel
theorem dX10_callOf_15 : decode cX10_callOf 15 = .ok (.iload_n 2, 1) := by decide +kernel
theorem dX10_callOf_16 : decode cX10_callOf 16 = .ok (.i2l, 1) := by decide +kernel
theorem dX10_callOf_17 : decode cX10_callOf 17 = .ok (.ldc2_w 249, 3) := by decide +kernel
theorem dX10_callOf_20 : decode cX10_callOf 20 = .ok (.bipush 9, 2) := by decide +kernel
theorem dX10_callOf_22 : decode cX10_callOf 22 = .ok (.aload_n 0, 1) := by decide +kernel
theorem dX10_callOf_23 : decode cX10_callOf 23 = .ok (.getfield 42, 3) := by decide +kernel
theorem dX10_callOf_26 : decode cX10_callOf 26 = .ok (.iload_n 1, 1) := by decide +kernel
theorem dX10_callOf_27 : decode cX10_callOf 27 = .ok (.iaload, 1) := by decide +kernel
theorem dX10_callOf_28 : decode cX10_callOf 28 = .ok (.iadd, 1) := by decide +kernel
theorem dX10_callOf_29 : decode cX10_callOf 29 = .ok (.i2l, 1) := by decide +kernel
theorem dX10_callOf_30 : decode cX10_callOf 30 = .ok (.invokestatic 91, 3) := by decide +kernel
theorem dX10_callOf_33 : decode cX10_callOf 33 = .ok (.ifCond .eq 15, 3) := by decide +kernel
theorem dX10_callOf_36 : decode cX10_callOf 36 = .ok (.aload_n 0, 1) := by decide +kernel
theorem dX10_callOf_37 : decode cX10_callOf 37 = .ok (.getfield 39, 3) := by decide +kernel
theorem dX10_callOf_40 : decode cX10_callOf 40 = .ok (.iload_n 1, 1) := by decide +kernel
theorem dX10_callOf_41 : decode cX10_callOf 41 = .ok (.aaload, 1) := by decide +kernel
theorem dX10_callOf_42 : decode cX10_callOf 42 = .ok (.iload_n 2, 1) := by decide +kernel
theorem dX10_callOf_43 : decode cX10_callOf 43 = .ok (.bipush 10, 2) := by decide +kernel
theorem dX10_callOf_45 : decode cX10_callOf 45 = .ok (.isub, 1) := by decide +kernel
theorem dX10_callOf_46 : decode cX10_callOf 46 = .ok (.iaload, 1) := by decide +kernel
theorem dX10_callOf_47 : decode cX10_callOf 47 = .ok (.ireturn, 1) := by decide +kernel
theorem dX10_callOf_48 : decode cX10_callOf 48 = .ok (.iload_n 2, 1) := by decide +kernel
theorem dX10_callOf_49 : decode cX10_callOf 49 = .ok (.tableswitch 48 0 2 #[27, 34, 41], 27) := by decide +kernel
theorem dX10_callOf_76 : decode cX10_callOf 76 = .ok (.aload_n 0, 1) := by decide +kernel
theorem dX10_callOf_77 : decode cX10_callOf 77 = .ok (.getfield 42, 3) := by decide +kernel
theorem dX10_callOf_80 : decode cX10_callOf 80 = .ok (.iload_n 1, 1) := by decide +kernel
theorem dX10_callOf_81 : decode cX10_callOf 81 = .ok (.iaload, 1) := by decide +kernel
theorem dX10_callOf_82 : decode cX10_callOf 82 = .ok (.ireturn, 1) := by decide +kernel
theorem dX10_callOf_83 : decode cX10_callOf 83 = .ok (.aload_n 0, 1) := by decide +kernel
theorem dX10_callOf_84 : decode cX10_callOf 84 = .ok (.getfield 45, 3) := by decide +kernel
theorem dX10_callOf_87 : decode cX10_callOf 87 = .ok (.iload_n 1, 1) := by decide +kernel
theorem dX10_callOf_88 : decode cX10_callOf 88 = .ok (.iaload, 1) := by decide +kernel
theorem dX10_callOf_89 : decode cX10_callOf 89 = .ok (.ireturn, 1) := by decide +kernel
theorem dX10_callOf_90 : decode cX10_callOf 90 = .ok (.aload_n 0, 1) := by decide +kernel
theorem dX10_callOf_91 : decode cX10_callOf 91 = .ok (.getfield 48, 3) := by decide +kernel
theorem dX10_callOf_94 : decode cX10_callOf 94 = .ok (.iload_n 1, 1) := by decide +kernel
theorem dX10_callOf_95 : decode cX10_callOf 95 = .ok (.iaload, 1) := by decide +kernel
theorem dX10_callOf_96 : decode cX10_callOf 96 = .ok (.ireturn, 1) := by decide +kernel
theorem dX10_callOf_97 : decode cX10_callOf 97 = .ok (.aload_n 0, 1) := by decide +kernel
theorem dX10_callOf_98 : decode cX10_callOf 98 = .ok (.bipush (-2), 2) := by decide +kernel
theorem dX10_callOf_100 : decode cX10_callOf 100 = .ok (.invokevirtual 107, 3) := by decide +kernel
theorem dX10_callOf_103 : decode cX10_callOf 103 = .ok (.ireturn, 1) := by decide +kernel
theorem dX10_earOf_0 : decode cX10_earOf 0 = .ok (.aload_n 0, 1) := by decide +kernel
theorem dX10_earOf_1 : decode cX10_earOf 1 = .ok (.iload_n 1, 1) := by decide +kernel
theorem dX10_earOf_2 : decode cX10_earOf 2 = .ok (.invokevirtual 122, 3) := by decide +kernel
theorem dX10_earOf_5 : decode cX10_earOf 5 = .ok (.ifCond .eq 13, 3) := by decide +kernel
theorem dX10_earOf_8 : decode cX10_earOf 8 = .ok (.iload_n 2, 1) := by decide +kernel
theorem dX10_earOf_9 : decode cX10_earOf 9 = .ok (.i2l, 1) := by decide +kernel
theorem dX10_earOf_10 : decode cX10_earOf 10 = .ok (.lconst 0, 1) := by decide +kernel
theorem dX10_earOf_11 : decode cX10_earOf 11 = .ok (.lconst 1, 1) := by decide +kernel
theorem dX10_earOf_12 : decode cX10_earOf 12 = .ok (.invokestatic 91, 3) := by decide +kernel
theorem dX10_earOf_15 : decode cX10_earOf 15 = .ok (.ifCond .ne 10, 3) := by decide +kernel
theorem dX10_earOf_18 : decode cX10_earOf 18 = .ok (.aload_n 0, 1) := by decide +kernel
theorem dX10_earOf_19 : decode cX10_earOf 19 = .ok (.bipush (-2), 2) := by decide +kernel
theorem dX10_earOf_21 : decode cX10_earOf 21 = .ok (.invokevirtual 107, 3) := by decide +kernel
theorem dX10_earOf_24 : decode cX10_earOf 24 = .ok (.ireturn, 1) := by decide +kernel
theorem dX10_earOf_25 : decode cX10_earOf 25 = .ok (.iload_n 2, 1) := by decide +kernel
theorem dX10_earOf_26 : decode cX10_earOf 26 = .ok (.ifCond .ne 12, 3) := by decide +kernel
theorem dX10_earOf_29 : decode cX10_earOf 29 = .ok (.aload_n 0, 1) := by decide +kernel
theorem dX10_earOf_30 : decode cX10_earOf 30 = .ok (.getfield 51, 3) := by decide +kernel
theorem dX10_earOf_33 : decode cX10_earOf 33 = .ok (.iload_n 1, 1) := by decide +kernel
theorem dX10_earOf_34 : decode cX10_earOf 34 = .ok (.iaload, 1) := by decide +kernel
theorem dX10_earOf_35 : decode cX10_earOf 35 = .ok (.goto 9, 3) := by decide +kernel
theorem dX10_earOf_38 : decode cX10_earOf 38 = .ok (.aload_n 0, 1) := by decide +kernel
theorem dX10_earOf_39 : decode cX10_earOf 39 = .ok (.getfield 54, 3) := by decide +kernel
theorem dX10_earOf_42 : decode cX10_earOf 42 = .ok (.iload_n 1, 1) := by decide +kernel
theorem dX10_earOf_43 : decode cX10_earOf 43 = .ok (.iaload, 1) := by decide +kernel
theorem dX10_earOf_44 : decode cX10_earOf 44 = .ok (.ireturn, 1) := by decide +kernel
theorem dX10_manOf_0 : decode cX10_manOf 0 = .ok (.aload_n 0, 1) := by decide +kernel
theorem dX10_manOf_1 : decode cX10_manOf 1 = .ok (.iload_n 1, 1) := by decide +kernel
theorem dX10_manOf_2 : decode cX10_manOf 2 = .ok (.invokevirtual 251, 3) := by decide +kernel
theorem dX10_manOf_5 : decode cX10_manOf 5 = .ok (.ifCond .eq 13, 3) := by decide +kernel
theorem dX10_manOf_8 : decode cX10_manOf 8 = .ok (.iload_n 2, 1) := by decide +kernel
theorem dX10_manOf_9 : decode cX10_manOf 9 = .ok (.i2l, 1) := by decide +kernel
theorem dX10_manOf_10 : decode cX10_manOf 10 = .ok (.lconst 0, 1) := by decide +kernel
theorem dX10_manOf_11 : decode cX10_manOf 11 = .ok (.lconst 1, 1) := by decide +kernel
theorem dX10_manOf_12 : decode cX10_manOf 12 = .ok (.invokestatic 91, 3) := by decide +kernel
theorem dX10_manOf_15 : decode cX10_manOf 15 = .ok (.ifCond .ne 10, 3) := by decide +kernel
theorem dX10_manOf_18 : decode cX10_manOf 18 = .ok (.aload_n 0, 1) := by decide +kernel
theorem dX10_manOf_19 : decode cX10_manOf 19 = .ok (.bipush (-2), 2) := by decide +kernel
theorem dX10_manOf_21 : decode cX10_manOf 21 = .ok (.invokevirtual 107, 3) := by decide +kernel
theorem dX10_manOf_24 : decode cX10_manOf 24 = .ok (.ireturn, 1) := by decide +kernel
theorem dX10_manOf_25 : decode cX10_manOf 25 = .ok (.iload_n 2, 1) := by decide +kernel
theorem dX10_manOf_26 : decode cX10_manOf 26 = .ok (.ifCond .ne 12, 3) := by decide +kernel
theorem dX10_manOf_29 : decode cX10_manOf 29 = .ok (.aload_n 0, 1) := by decide +kernel
theorem dX10_manOf_30 : decode cX10_manOf 30 = .ok (.getfield 57, 3) := by decide +kernel
theorem dX10_manOf_33 : decode cX10_manOf 33 = .ok (.iload_n 1, 1) := by decide +kernel
theorem dX10_manOf_34 : decode cX10_manOf 34 = .ok (.iaload, 1) := by decide +kernel
theorem dX10_manOf_35 : decode cX10_manOf 35 = .ok (.goto 9, 3) := by decide +kernel
theorem dX10_manOf_38 : decode cX10_manOf 38 = .ok (.aload_n 0, 1) := by decide +kernel
theorem dX10_manOf_39 : decode cX10_manOf 39 = .ok (.getfield 60, 3) := by decide +kernel
theorem dX10_manOf_42 : decode cX10_manOf 42 = .ok (.iload_n 1, 1) := by decide +kernel
theorem dX10_manOf_43 : decode cX10_manOf 43 = .ok (.iaload, 1) := by decide +kernel
theorem dX10_manOf_44 : decode cX10_manOf 44 = .ok (.ireturn, 1) := by decide +kernel
theorem dX10_isTorn_0 : decode cX10_isTorn 0 = .ok (.iload_n 3, 1) := by decide +kernel
theorem dX10_isTorn_1 : decode cX10_isTorn 1 = .ok (.aload_n 0, 1) := by decide +kernel
theorem dX10_isTorn_2 : decode cX10_isTorn 2 = .ok (.getfield 54, 3) := by decide +kernel
theorem dX10_isTorn_5 : decode cX10_isTorn 5 = .ok (.iload_n 1, 1) := by decide +kernel
theorem dX10_isTorn_6 : decode cX10_isTorn 6 = .ok (.iaload, 1) := by decide +kernel
theorem dX10_isTorn_7 : decode cX10_isTorn 7 = .ok (.if_icmp .lt 20, 3) := by decide +kernel
theorem dX10_isTorn_10 : decode cX10_isTorn 10 = .ok (.aload_n 0, 1) := by decide +kernel
theorem dX10_isTorn_11 : decode cX10_isTorn 11 = .ok (.getfield 51, 3) := by decide +kernel
theorem dX10_isTorn_14 : decode cX10_isTorn 14 = .ok (.iload_n 1, 1) := by decide +kernel
theorem dX10_isTorn_15 : decode cX10_isTorn 15 = .ok (.iaload, 1) := by decide +kernel
theorem dX10_isTorn_16 : decode cX10_isTorn 16 = .ok (.iconst 3, 1) := by decide +kernel
theorem dX10_isTorn_17 : decode cX10_isTorn 17 = .ok (.if_icmp .ne 14, 3) := by decide +kernel
theorem dX10_isTorn_20 : decode cX10_isTorn 20 = .ok (.iload_n 3, 1) := by decide +kernel
theorem dX10_isTorn_21 : decode cX10_isTorn 21 = .ok (.iload_n 2, 1) := by decide +kernel
theorem dX10_isTorn_22 : decode cX10_isTorn 22 = .ok (.iconst 1, 1) := by decide +kernel
theorem dX10_isTorn_23 : decode cX10_isTorn 23 = .ok (.isub, 1) := by decide +kernel
theorem dX10_isTorn_24 : decode cX10_isTorn 24 = .ok (.if_icmp .ne 7, 3) := by decide +kernel
theorem dX10_isTorn_27 : decode cX10_isTorn 27 = .ok (.iconst 1, 1) := by decide +kernel
theorem dX10_isTorn_28 : decode cX10_isTorn 28 = .ok (.goto 4, 3) := by decide +kernel
theorem dX10_isTorn_31 : decode cX10_isTorn 31 = .ok (.iconst 0, 1) := by decide +kernel
theorem dX10_isTorn_32 : decode cX10_isTorn 32 = .ok (.ireturn, 1) := by decide +kernel
theorem dX10_isEchoed_0 : decode cX10_isEchoed 0 = .ok (.iload_n 2, 1) := by decide +kernel
theorem dX10_isEchoed_1 : decode cX10_isEchoed 1 = .ok (.aload_n 0, 1) := by decide +kernel
theorem dX10_isEchoed_2 : decode cX10_isEchoed 2 = .ok (.getfield 54, 3) := by decide +kernel
theorem dX10_isEchoed_5 : decode cX10_isEchoed 5 = .ok (.iload_n 1, 1) := by decide +kernel
theorem dX10_isEchoed_6 : decode cX10_isEchoed 6 = .ok (.iaload, 1) := by decide +kernel
theorem dX10_isEchoed_7 : decode cX10_isEchoed 7 = .ok (.iconst 1, 1) := by decide +kernel
theorem dX10_isEchoed_8 : decode cX10_isEchoed 8 = .ok (.iadd, 1) := by decide +kernel
theorem dX10_isEchoed_9 : decode cX10_isEchoed 9 = .ok (.irem, 1) := by decide +kernel
theorem dX10_isEchoed_10 : decode cX10_isEchoed 10 = .ok (.aload_n 0, 1) := by decide +kernel
theorem dX10_isEchoed_11 : decode cX10_isEchoed 11 = .ok (.getfield 54, 3) := by decide +kernel
theorem dX10_isEchoed_14 : decode cX10_isEchoed 14 = .ok (.iload_n 1, 1) := by decide +kernel
theorem dX10_isEchoed_15 : decode cX10_isEchoed 15 = .ok (.iaload, 1) := by decide +kernel
theorem dX10_isEchoed_16 : decode cX10_isEchoed 16 = .ok (.if_icmp .ne 7, 3) := by decide +kernel
theorem dX10_isEchoed_19 : decode cX10_isEchoed 19 = .ok (.iconst 1, 1) := by decide +kernel
theorem dX10_isEchoed_20 : decode cX10_isEchoed 20 = .ok (.goto 4, 3) := by decide +kernel
theorem dX10_isEchoed_23 : decode cX10_isEchoed 23 = .ok (.iconst 0, 1) := by decide +kernel
theorem dX10_isEchoed_24 : decode cX10_isEchoed 24 = .ok (.ireturn, 1) := by decide +kernel
theorem dX10_hears_0 : decode cX10_hears 0 = .ok (.aload_n 0, 1) := by decide +kernel
theorem dX10_hears_1 : decode cX10_hears 1 = .ok (.getfield 39, 3) := by decide +kernel
theorem dX10_hears_4 : decode cX10_hears 4 = .ok (.iload_n 1, 1) := by decide +kernel
theorem dX10_hears_5 : decode cX10_hears 5 = .ok (.aaload, 1) := by decide +kernel
theorem dX10_hears_6 : decode cX10_hears 6 = .ok (.iload_n 3, 1) := by decide +kernel
theorem dX10_hears_7 : decode cX10_hears 7 = .ok (.iaload, 1) := by decide +kernel
theorem dX10_hears_8 : decode cX10_hears 8 = .ok (.istore 4, 2) := by decide +kernel
theorem dX10_hears_10 : decode cX10_hears 10 = .ok (.aload_n 0, 1) := by decide +kernel
theorem dX10_hears_11 : decode cX10_hears 11 = .ok (.getfield 51, 3) := by decide +kernel
theorem dX10_hears_14 : decode cX10_hears 14 = .ok (.iload_n 2, 1) := by decide +kernel
theorem dX10_hears_15 : decode cX10_hears 15 = .ok (.iaload, 1) := by decide +kernel
theorem dX10_hears_16 : decode cX10_hears 16 = .ok (.tableswitch 124 1 5 #[36, 59, 36, 72, 95], 36) := by decide +kernel
theorem dX10_hears_52 : decode cX10_hears 52 = .ok (.aload_n 0, 1) := by decide +kernel
theorem dX10_hears_53 : decode cX10_hears 53 = .ok (.iload_n 2, 1) := by decide +kernel
theorem dX10_hears_54 : decode cX10_hears 54 = .ok (.aload_n 0, 1) := by decide +kernel
theorem dX10_hears_55 : decode cX10_hears 55 = .ok (.getfield 42, 3) := by decide +kernel
theorem dX10_hears_58 : decode cX10_hears 58 = .ok (.iload_n 1, 1) := by decide +kernel
theorem dX10_hears_59 : decode cX10_hears 59 = .ok (.iaload, 1) := by decide +kernel
theorem dX10_hears_60 : decode cX10_hears 60 = .ok (.iload_n 3, 1) := by decide +kernel
theorem dX10_hears_61 : decode cX10_hears 61 = .ok (.invokevirtual 135, 3) := by decide +kernel
theorem dX10_hears_64 : decode cX10_hears 64 = .ok (.ifCond .eq 8, 3) := by decide +kernel
theorem dX10_hears_67 : decode cX10_hears 67 = .ok (.bipush 9, 2) := by decide +kernel
theorem dX10_hears_69 : decode cX10_hears 69 = .ok (.goto 5, 3) := by decide +kernel
theorem dX10_hears_72 : decode cX10_hears 72 = .ok (.iload 4, 2) := by decide +kernel
theorem dX10_hears_74 : decode cX10_hears 74 = .ok (.ireturn, 1) := by decide +kernel
theorem dX10_hears_75 : decode cX10_hears 75 = .ok (.iload 4, 2) := by decide +kernel
theorem dX10_hears_77 : decode cX10_hears 77 = .ok (.iconst 4, 1) := by decide +kernel
theorem dX10_hears_78 : decode cX10_hears 78 = .ok (.if_icmp .ne 7, 3) := by decide +kernel
theorem dX10_hears_81 : decode cX10_hears 81 = .ok (.iconst 3, 1) := by decide +kernel
theorem dX10_hears_82 : decode cX10_hears 82 = .ok (.goto 5, 3) := by decide +kernel
theorem dX10_hears_85 : decode cX10_hears 85 = .ok (.iload 4, 2) := by decide +kernel
theorem dX10_hears_87 : decode cX10_hears 87 = .ok (.ireturn, 1) := by decide +kernel
theorem dX10_hears_88 : decode cX10_hears 88 = .ok (.iload 4, 2) := by decide +kernel
theorem dX10_hears_90 : decode cX10_hears 90 = .ok (.iconst 4, 1) := by decide +kernel
theorem dX10_hears_91 : decode cX10_hears 91 = .ok (.if_icmp .ne 7, 3) := by decide +kernel
theorem dX10_hears_94 : decode cX10_hears 94 = .ok (.iconst 3, 1) := by decide +kernel
theorem dX10_hears_95 : decode cX10_hears 95 = .ok (.goto 15, 3) := by decide +kernel
theorem dX10_hears_98 : decode cX10_hears 98 = .ok (.iload 4, 2) := by decide +kernel
theorem dX10_hears_100 : decode cX10_hears 100 = .ok (.ifCond .ne 8, 3) := by decide +kernel
theorem dX10_hears_103 : decode cX10_hears 103 = .ok (.bipush 9, 2) := by decide +kernel
theorem dX10_hears_105 : decode cX10_hears 105 = .ok (.goto 5, 3) := by decide +kernel
theorem dX10_hears_108 : decode cX10_hears 108 = .ok (.iload 4, 2) := by decide +kernel
theorem dX10_hears_110 : decode cX10_hears 110 = .ok (.ireturn, 1) := by decide +kernel
theorem dX10_hears_111 : decode cX10_hears 111 = .ok (.iload_n 3, 1) := by decide +kernel
theorem dX10_hears_112 : decode cX10_hears 112 = .ok (.ifCond .le 25, 3) := by decide +kernel
theorem dX10_hears_115 : decode cX10_hears 115 = .ok (.aload_n 0, 1) := by decide +kernel
theorem dX10_hears_116 : decode cX10_hears 116 = .ok (.iload_n 2, 1) := by decide +kernel
theorem dX10_hears_117 : decode cX10_hears 117 = .ok (.iload_n 3, 1) := by decide +kernel
theorem dX10_hears_118 : decode cX10_hears 118 = .ok (.invokevirtual 132, 3) := by decide +kernel
theorem dX10_hears_121 : decode cX10_hears 121 = .ok (.ifCond .eq 16, 3) := by decide +kernel
theorem dX10_hears_124 : decode cX10_hears 124 = .ok (.aload_n 0, 1) := by decide +kernel
theorem dX10_hears_125 : decode cX10_hears 125 = .ok (.getfield 39, 3) := by decide +kernel
theorem dX10_hears_128 : decode cX10_hears 128 = .ok (.iload_n 1, 1) := by decide +kernel
theorem dX10_hears_129 : decode cX10_hears 129 = .ok (.aaload, 1) := by decide +kernel
theorem dX10_hears_130 : decode cX10_hears 130 = .ok (.iload_n 3, 1) := by decide +kernel
theorem dX10_hears_131 : decode cX10_hears 131 = .ok (.iconst 1, 1) := by decide +kernel
theorem dX10_hears_132 : decode cX10_hears 132 = .ok (.isub, 1) := by decide +kernel
theorem dX10_hears_133 : decode cX10_hears 133 = .ok (.iaload, 1) := by decide +kernel
theorem dX10_hears_134 : decode cX10_hears 134 = .ok (.goto 5, 3) := by decide +kernel
theorem dX10_hears_137 : decode cX10_hears 137 = .ok (.iload 4, 2) := by decide +kernel
theorem dX10_hears_139 : decode cX10_hears 139 = .ok (.ireturn, 1) := by decide +kernel
theorem dX10_hears_140 : decode cX10_hears 140 = .ok (.iload 4, 2) := by decide +kernel
theorem dX10_hears_142 : decode cX10_hears 142 = .ok (.ireturn, 1) := by decide +kernel
theorem dX10_heard_0 : decode cX10_heard 0 = .ok (.aload_n 0, 1) := by decide +kernel
theorem dX10_heard_1 : decode cX10_heard 1 = .ok (.iload_n 1, 1) := by decide +kernel
theorem dX10_heard_2 : decode cX10_heard 2 = .ok (.invokevirtual 155, 3) := by decide +kernel
theorem dX10_heard_5 : decode cX10_heard 5 = .ok (.ifCond .eq 29, 3) := by decide +kernel
theorem dX10_heard_8 : decode cX10_heard 8 = .ok (.aload_n 0, 1) := by decide +kernel
theorem dX10_heard_9 : decode cX10_heard 9 = .ok (.iload_n 2, 1) := by decide +kernel
theorem dX10_heard_10 : decode cX10_heard 10 = .ok (.invokevirtual 122, 3) := by decide +kernel
theorem dX10_heard_13 : decode cX10_heard 13 = .ok (.ifCond .eq 21, 3) := by decide +kernel
theorem dX10_heard_16 : decode cX10_heard 16 = .ok (.iload_n 3, 1) := by decide +kernel
theorem dX10_heard_17 : decode cX10_heard 17 = .ok (.i2l, 1) := by decide +kernel
theorem dX10_heard_18 : decode cX10_heard 18 = .ok (.lconst 0, 1) := by decide +kernel
theorem dX10_heard_19 : decode cX10_heard 19 = .ok (.aload_n 0, 1) := by decide +kernel
theorem dX10_heard_20 : decode cX10_heard 20 = .ok (.getfield 42, 3) := by decide +kernel
theorem dX10_heard_23 : decode cX10_heard 23 = .ok (.iload_n 1, 1) := by decide +kernel
theorem dX10_heard_24 : decode cX10_heard 24 = .ok (.iaload, 1) := by decide +kernel
theorem dX10_heard_25 : decode cX10_heard 25 = .ok (.iconst 1, 1) := by decide +kernel
theorem dX10_heard_26 : decode cX10_heard 26 = .ok (.isub, 1) := by decide +kernel
theorem dX10_heard_27 : decode cX10_heard 27 = .ok (.i2l, 1) := by decide +kernel
theorem dX10_heard_28 : decode cX10_heard 28 = .ok (.invokestatic 91, 3) := by decide +kernel
theorem dX10_heard_31 : decode cX10_heard 31 = .ok (.ifCond .ne 10, 3) := by decide +kernel
theorem dX10_heard_34 : decode cX10_heard 34 = .ok (.aload_n 0, 1) := by decide +kernel
theorem dX10_heard_35 : decode cX10_heard 35 = .ok (.bipush (-2), 2) := by decide +kernel
theorem dX10_heard_37 : decode cX10_heard 37 = .ok (.invokevirtual 107, 3) := by decide +kernel
theorem dX10_heard_40 : decode cX10_heard 40 = .ok (.ireturn, 1) := by decide +kernel
theorem dX10_heard_41 : decode cX10_heard 41 = .ok (.aload_n 0, 1) := by decide +kernel
theorem dX10_heard_42 : decode cX10_heard 42 = .ok (.iload_n 1, 1) := by decide +kernel
theorem dX10_heard_43 : decode cX10_heard 43 = .ok (.iload_n 2, 1) := by decide +kernel
theorem dX10_heard_44 : decode cX10_heard 44 = .ok (.iload_n 3, 1) := by decide +kernel
theorem dX10_heard_45 : decode cX10_heard 45 = .ok (.invokevirtual 254, 3) := by decide +kernel
theorem dX10_heard_48 : decode cX10_heard 48 = .ok (.ireturn, 1) := by decide +kernel
theorem dX10_fitsHearing_0 : decode cX10_fitsHearing 0 = .ok (.aload_n 0, 1) := by decide +kernel
theorem dX10_fitsHearing_1 : decode cX10_fitsHearing 1 = .ok (.getfield 258, 3) := by decide +kernel
theorem dX10_fitsHearing_4 : decode cX10_fitsHearing 4 = .ok (.ifCond .eq 19, 3) := by decide +kernel
theorem dX10_fitsHearing_7 : decode cX10_fitsHearing 7 = .ok (.aload_n 0, 1) := by decide +kernel
theorem dX10_fitsHearing_8 : decode cX10_fitsHearing 8 = .ok (.getfield 42, 3) := by decide +kernel
theorem dX10_fitsHearing_11 : decode cX10_fitsHearing 11 = .ok (.iload_n 1, 1) := by decide +kernel
theorem dX10_fitsHearing_12 : decode cX10_fitsHearing 12 = .ok (.iaload, 1) := by decide +kernel
theorem dX10_fitsHearing_13 : decode cX10_fitsHearing 13 = .ok (.aload_n 0, 1) := by decide +kernel
theorem dX10_fitsHearing_14 : decode cX10_fitsHearing 14 = .ok (.getfield 262, 3) := by decide +kernel
theorem dX10_fitsHearing_17 : decode cX10_fitsHearing 17 = .ok (.if_icmp .eq 21, 3) := by decide +kernel
theorem dX10_fitsHearing_20 : decode cX10_fitsHearing 20 = .ok (.goto 16, 3) := by decide +kernel
theorem dX10_fitsHearing_23 : decode cX10_fitsHearing 23 = .ok (.aload_n 0, 1) := by decide +kernel
theorem dX10_fitsHearing_24 : decode cX10_fitsHearing 24 = .ok (.getfield 42, 3) := by decide +kernel
theorem dX10_fitsHearing_27 : decode cX10_fitsHearing 27 = .ok (.iload_n 1, 1) := by decide +kernel
theorem dX10_fitsHearing_28 : decode cX10_fitsHearing 28 = .ok (.iaload, 1) := by decide +kernel
theorem dX10_fitsHearing_29 : decode cX10_fitsHearing 29 = .ok (.aload_n 0, 1) := by decide +kernel
theorem dX10_fitsHearing_30 : decode cX10_fitsHearing 30 = .ok (.getfield 262, 3) := by decide +kernel
theorem dX10_fitsHearing_33 : decode cX10_fitsHearing 33 = .ok (.if_icmp .ge 5, 3) := by decide +kernel
theorem dX10_fitsHearing_36 : decode cX10_fitsHearing 36 = .ok (.iconst 0, 1) := by decide +kernel
theorem dX10_fitsHearing_37 : decode cX10_fitsHearing 37 = .ok (.ireturn, 1) := by decide +kernel
theorem dX10_fitsHearing_38 : decode cX10_fitsHearing 38 = .ok (.iconst 0, 1) := by decide +kernel
theorem dX10_fitsHearing_39 : decode cX10_fitsHearing 39 = .ok (.istore_n 3, 1) := by decide +kernel
theorem dX10_fitsHearing_40 : decode cX10_fitsHearing 40 = .ok (.iload_n 3, 1) := by decide +kernel
theorem dX10_fitsHearing_41 : decode cX10_fitsHearing 41 = .ok (.aload_n 0, 1) := by decide +kernel
theorem dX10_fitsHearing_42 : decode cX10_fitsHearing 42 = .ok (.getfield 262, 3) := by decide +kernel
theorem dX10_fitsHearing_45 : decode cX10_fitsHearing 45 = .ok (.if_icmp .ge 53, 3) := by decide +kernel
theorem dX10_fitsHearing_48 : decode cX10_fitsHearing 48 = .ok (.aload_n 0, 1) := by decide +kernel
theorem dX10_fitsHearing_49 : decode cX10_fitsHearing 49 = .ok (.iload_n 1, 1) := by decide +kernel
theorem dX10_fitsHearing_50 : decode cX10_fitsHearing 50 = .ok (.iload_n 2, 1) := by decide +kernel
theorem dX10_fitsHearing_51 : decode cX10_fitsHearing 51 = .ok (.iload_n 3, 1) := by decide +kernel
theorem dX10_fitsHearing_52 : decode cX10_fitsHearing 52 = .ok (.invokevirtual 254, 3) := by decide +kernel
theorem dX10_fitsHearing_55 : decode cX10_fitsHearing 55 = .ok (.istore 4, 2) := by decide +kernel
theorem dX10_fitsHearing_57 : decode cX10_fitsHearing 57 = .ok (.iload 4, 2) := by decide +kernel
theorem dX10_fitsHearing_59 : decode cX10_fitsHearing 59 = .ok (.bipush 9, 2) := by decide +kernel
theorem dX10_fitsHearing_61 : decode cX10_fitsHearing 61 = .ok (.if_icmp .eq 31, 3) := by decide +kernel
theorem dX10_fitsHearing_64 : decode cX10_fitsHearing 64 = .ok (.aload_n 0, 1) := by decide +kernel
theorem dX10_fitsHearing_65 : decode cX10_fitsHearing 65 = .ok (.getfield 76, 3) := by decide +kernel
theorem dX10_fitsHearing_68 : decode cX10_fitsHearing 68 = .ok (.iload_n 3, 1) := by decide +kernel
theorem dX10_fitsHearing_69 : decode cX10_fitsHearing 69 = .ok (.laload, 1) := by decide +kernel
theorem dX10_fitsHearing_70 : decode cX10_fitsHearing 70 = .ok (.ldc2_w 146, 3) := by decide +kernel
theorem dX10_fitsHearing_73 : decode cX10_fitsHearing 73 = .ok (.lcmp, 1) := by decide +kernel
theorem dX10_fitsHearing_74 : decode cX10_fitsHearing 74 = .ok (.ifCond .eq 18, 3) := by decide +kernel
theorem dX10_fitsHearing_77 : decode cX10_fitsHearing 77 = .ok (.iload 4, 2) := by decide +kernel
theorem dX10_fitsHearing_79 : decode cX10_fitsHearing 79 = .ok (.i2l, 1) := by decide +kernel
theorem dX10_fitsHearing_80 : decode cX10_fitsHearing 80 = .ok (.aload_n 0, 1) := by decide +kernel
theorem dX10_fitsHearing_81 : decode cX10_fitsHearing 81 = .ok (.getfield 76, 3) := by decide +kernel
theorem dX10_fitsHearing_84 : decode cX10_fitsHearing 84 = .ok (.iload_n 3, 1) := by decide +kernel
theorem dX10_fitsHearing_85 : decode cX10_fitsHearing 85 = .ok (.laload, 1) := by decide +kernel
theorem dX10_fitsHearing_86 : decode cX10_fitsHearing 86 = .ok (.lcmp, 1) := by decide +kernel
theorem dX10_fitsHearing_87 : decode cX10_fitsHearing 87 = .ok (.ifCond .eq 5, 3) := by decide +kernel
theorem dX10_fitsHearing_90 : decode cX10_fitsHearing 90 = .ok (.iconst 0, 1) := by decide +kernel
theorem dX10_fitsHearing_91 : decode cX10_fitsHearing 91 = .ok (.ireturn, 1) := by decide +kernel
theorem dX10_fitsHearing_92 : decode cX10_fitsHearing 92 = .ok (.iinc 3 1, 3) := by decide +kernel
theorem dX10_fitsHearing_95 : decode cX10_fitsHearing 95 = .ok (.goto (-55), 3) := by decide +kernel
theorem dX10_fitsHearing_98 : decode cX10_fitsHearing 98 = .ok (.iconst 1, 1) := by decide +kernel
theorem dX10_fitsHearing_99 : decode cX10_fitsHearing 99 = .ok (.ireturn, 1) := by decide +kernel
theorem dX10_hearsOf_0 : decode cX10_hearsOf 0 = .ok (.aload_n 0, 1) := by decide +kernel
theorem dX10_hearsOf_1 : decode cX10_hearsOf 1 = .ok (.iload_n 3, 1) := by decide +kernel
theorem dX10_hearsOf_2 : decode cX10_hearsOf 2 = .ok (.putfield 262, 3) := by decide +kernel
theorem dX10_hearsOf_5 : decode cX10_hearsOf 5 = .ok (.aload_n 0, 1) := by decide +kernel
theorem dX10_hearsOf_6 : decode cX10_hearsOf 6 = .ok (.iload 4, 2) := by decide +kernel
theorem dX10_hearsOf_8 : decode cX10_hearsOf 8 = .ok (.putfield 258, 3) := by decide +kernel
theorem dX10_hearsOf_11 : decode cX10_hearsOf 11 = .ok (.iconst 0, 1) := by decide +kernel
theorem dX10_hearsOf_12 : decode cX10_hearsOf 12 = .ok (.istore 5, 2) := by decide +kernel
theorem dX10_hearsOf_14 : decode cX10_hearsOf 14 = .ok (.iload 5, 2) := by decide +kernel
theorem dX10_hearsOf_16 : decode cX10_hearsOf 16 = .ok (.iload_n 3, 1) := by decide +kernel
theorem dX10_hearsOf_17 : decode cX10_hearsOf 17 = .ok (.if_icmp .ge 25, 3) := by decide +kernel
theorem dX10_hearsOf_20 : decode cX10_hearsOf 20 = .ok (.aload_n 0, 1) := by decide +kernel
theorem dX10_hearsOf_21 : decode cX10_hearsOf 21 = .ok (.getfield 76, 3) := by decide +kernel
theorem dX10_hearsOf_24 : decode cX10_hearsOf 24 = .ok (.iload 5, 2) := by decide +kernel
theorem dX10_hearsOf_26 : decode cX10_hearsOf 26 = .ok (.aload_n 0, 1) := by decide +kernel
theorem dX10_hearsOf_27 : decode cX10_hearsOf 27 = .ok (.iload_n 1, 1) := by decide +kernel
theorem dX10_hearsOf_28 : decode cX10_hearsOf 28 = .ok (.iload_n 2, 1) := by decide +kernel
theorem dX10_hearsOf_29 : decode cX10_hearsOf 29 = .ok (.iload 5, 2) := by decide +kernel
theorem dX10_hearsOf_31 : decode cX10_hearsOf 31 = .ok (.invokevirtual 254, 3) := by decide +kernel
theorem dX10_hearsOf_34 : decode cX10_hearsOf 34 = .ok (.i2l, 1) := by decide +kernel
theorem dX10_hearsOf_35 : decode cX10_hearsOf 35 = .ok (.lastore, 1) := by decide +kernel
theorem dX10_hearsOf_36 : decode cX10_hearsOf 36 = .ok (.iinc 5 1, 3) := by decide +kernel
theorem dX10_hearsOf_39 : decode cX10_hearsOf 39 = .ok (.goto (-25), 3) := by decide +kernel
theorem dX10_hearsOf_42 : decode cX10_hearsOf 42 = .ok (.return_, 1) := by decide +kernel
theorem dX10_likelyOf_0 : decode cX10_likelyOf 0 = .ok (.iconst 0, 1) := by decide +kernel
theorem dX10_likelyOf_1 : decode cX10_likelyOf 1 = .ok (.istore_n 3, 1) := by decide +kernel
theorem dX10_likelyOf_2 : decode cX10_likelyOf 2 = .ok (.iconst 0, 1) := by decide +kernel
theorem dX10_likelyOf_3 : decode cX10_likelyOf 3 = .ok (.istore 4, 2) := by decide +kernel
theorem dX10_likelyOf_5 : decode cX10_likelyOf 5 = .ok (.iload 4, 2) := by decide +kernel
theorem dX10_likelyOf_7 : decode cX10_likelyOf 7 = .ok (.aload_n 0, 1) := by decide +kernel
theorem dX10_likelyOf_8 : decode cX10_likelyOf 8 = .ok (.getfield 88, 3) := by decide +kernel
theorem dX10_likelyOf_11 : decode cX10_likelyOf 11 = .ok (.if_icmp .ge 33, 3) := by decide +kernel
theorem dX10_likelyOf_14 : decode cX10_likelyOf 14 = .ok (.iload_n 3, 1) := by decide +kernel
theorem dX10_likelyOf_15 : decode cX10_likelyOf 15 = .ok (.aload_n 0, 1) := by decide +kernel
theorem dX10_likelyOf_16 : decode cX10_likelyOf 16 = .ok (.iload 4, 2) := by decide +kernel
theorem dX10_likelyOf_18 : decode cX10_likelyOf 18 = .ok (.iload_n 2, 1) := by decide +kernel
theorem dX10_likelyOf_19 : decode cX10_likelyOf 19 = .ok (.invokevirtual 265, 3) := by decide +kernel
theorem dX10_likelyOf_22 : decode cX10_likelyOf 22 = .ok (.ifCond .eq 13, 3) := by decide +kernel
theorem dX10_likelyOf_25 : decode cX10_likelyOf 25 = .ok (.aload_n 0, 1) := by decide +kernel
theorem dX10_likelyOf_26 : decode cX10_likelyOf 26 = .ok (.getfield 45, 3) := by decide +kernel
theorem dX10_likelyOf_29 : decode cX10_likelyOf 29 = .ok (.iload 4, 2) := by decide +kernel
theorem dX10_likelyOf_31 : decode cX10_likelyOf 31 = .ok (.iaload, 1) := by decide +kernel
theorem dX10_likelyOf_32 : decode cX10_likelyOf 32 = .ok (.goto 4, 3) := by decide +kernel
theorem dX10_likelyOf_35 : decode cX10_likelyOf 35 = .ok (.iconst 0, 1) := by decide +kernel
theorem dX10_likelyOf_36 : decode cX10_likelyOf 36 = .ok (.iadd, 1) := by decide +kernel
theorem dX10_likelyOf_37 : decode cX10_likelyOf 37 = .ok (.istore_n 3, 1) := by decide +kernel
theorem dX10_likelyOf_38 : decode cX10_likelyOf 38 = .ok (.iinc 4 1, 3) := by decide +kernel
theorem dX10_likelyOf_41 : decode cX10_likelyOf 41 = .ok (.goto (-36), 3) := by decide +kernel
theorem dX10_likelyOf_44 : decode cX10_likelyOf 44 = .ok (.aload_n 0, 1) := by decide +kernel
theorem dX10_likelyOf_45 : decode cX10_likelyOf 45 = .ok (.iload_n 1, 1) := by decide +kernel
theorem dX10_likelyOf_46 : decode cX10_likelyOf 46 = .ok (.iload_n 2, 1) := by decide +kernel
theorem dX10_likelyOf_47 : decode cX10_likelyOf 47 = .ok (.invokevirtual 265, 3) := by decide +kernel
theorem dX10_likelyOf_50 : decode cX10_likelyOf 50 = .ok (.ifCond .eq 18, 3) := by decide +kernel
theorem dX10_likelyOf_53 : decode cX10_likelyOf 53 = .ok (.sipush 1000, 3) := by decide +kernel
theorem dX10_likelyOf_56 : decode cX10_likelyOf 56 = .ok (.aload_n 0, 1) := by decide +kernel
theorem dX10_likelyOf_57 : decode cX10_likelyOf 57 = .ok (.getfield 45, 3) := by decide +kernel
theorem dX10_likelyOf_60 : decode cX10_likelyOf 60 = .ok (.iload_n 1, 1) := by decide +kernel
theorem dX10_likelyOf_61 : decode cX10_likelyOf 61 = .ok (.iaload, 1) := by decide +kernel
theorem dX10_likelyOf_62 : decode cX10_likelyOf 62 = .ok (.imul, 1) := by decide +kernel
theorem dX10_likelyOf_63 : decode cX10_likelyOf 63 = .ok (.iload_n 3, 1) := by decide +kernel
theorem dX10_likelyOf_64 : decode cX10_likelyOf 64 = .ok (.idiv, 1) := by decide +kernel
theorem dX10_likelyOf_65 : decode cX10_likelyOf 65 = .ok (.goto 4, 3) := by decide +kernel
theorem dX10_likelyOf_68 : decode cX10_likelyOf 68 = .ok (.iconst 0, 1) := by decide +kernel
theorem dX10_likelyOf_69 : decode cX10_likelyOf 69 = .ok (.ireturn, 1) := by decide +kernel
theorem dX10_guessOf_0 : decode cX10_guessOf 0 = .ok (.iconst (-1), 1) := by decide +kernel
theorem dX10_guessOf_1 : decode cX10_guessOf 1 = .ok (.istore_n 2, 1) := by decide +kernel
theorem dX10_guessOf_2 : decode cX10_guessOf 2 = .ok (.iconst 0, 1) := by decide +kernel
theorem dX10_guessOf_3 : decode cX10_guessOf 3 = .ok (.istore_n 3, 1) := by decide +kernel
theorem dX10_guessOf_4 : decode cX10_guessOf 4 = .ok (.iload_n 3, 1) := by decide +kernel
theorem dX10_guessOf_5 : decode cX10_guessOf 5 = .ok (.aload_n 0, 1) := by decide +kernel
theorem dX10_guessOf_6 : decode cX10_guessOf 6 = .ok (.getfield 88, 3) := by decide +kernel
theorem dX10_guessOf_9 : decode cX10_guessOf 9 = .ok (.if_icmp .ge 40, 3) := by decide +kernel
theorem dX10_guessOf_12 : decode cX10_guessOf 12 = .ok (.aload_n 0, 1) := by decide +kernel
theorem dX10_guessOf_13 : decode cX10_guessOf 13 = .ok (.iload_n 3, 1) := by decide +kernel
theorem dX10_guessOf_14 : decode cX10_guessOf 14 = .ok (.iload_n 1, 1) := by decide +kernel
theorem dX10_guessOf_15 : decode cX10_guessOf 15 = .ok (.invokevirtual 265, 3) := by decide +kernel
theorem dX10_guessOf_18 : decode cX10_guessOf 18 = .ok (.ifCond .eq 25, 3) := by decide +kernel
theorem dX10_guessOf_21 : decode cX10_guessOf 21 = .ok (.iload_n 2, 1) := by decide +kernel
theorem dX10_guessOf_22 : decode cX10_guessOf 22 = .ok (.iconst (-1), 1) := by decide +kernel
theorem dX10_guessOf_23 : decode cX10_guessOf 23 = .ok (.if_icmp .eq 18, 3) := by decide +kernel
theorem dX10_guessOf_26 : decode cX10_guessOf 26 = .ok (.aload_n 0, 1) := by decide +kernel
theorem dX10_guessOf_27 : decode cX10_guessOf 27 = .ok (.getfield 45, 3) := by decide +kernel
theorem dX10_guessOf_30 : decode cX10_guessOf 30 = .ok (.iload_n 3, 1) := by decide +kernel
theorem dX10_guessOf_31 : decode cX10_guessOf 31 = .ok (.iaload, 1) := by decide +kernel
theorem dX10_guessOf_32 : decode cX10_guessOf 32 = .ok (.aload_n 0, 1) := by decide +kernel
theorem dX10_guessOf_33 : decode cX10_guessOf 33 = .ok (.getfield 45, 3) := by decide +kernel
theorem dX10_guessOf_36 : decode cX10_guessOf 36 = .ok (.iload_n 2, 1) := by decide +kernel
theorem dX10_guessOf_37 : decode cX10_guessOf 37 = .ok (.iaload, 1) := by decide +kernel
theorem dX10_guessOf_38 : decode cX10_guessOf 38 = .ok (.if_icmp .le 5, 3) := by decide +kernel
theorem dX10_guessOf_41 : decode cX10_guessOf 41 = .ok (.iload_n 3, 1) := by decide +kernel
theorem dX10_guessOf_42 : decode cX10_guessOf 42 = .ok (.istore_n 2, 1) := by decide +kernel
theorem dX10_guessOf_43 : decode cX10_guessOf 43 = .ok (.iinc 3 1, 3) := by decide +kernel
theorem dX10_guessOf_46 : decode cX10_guessOf 46 = .ok (.goto (-42), 3) := by decide +kernel
theorem dX10_guessOf_49 : decode cX10_guessOf 49 = .ok (.iload_n 2, 1) := by decide +kernel
theorem dX10_guessOf_50 : decode cX10_guessOf 50 = .ok (.ireturn, 1) := by decide +kernel
theorem dX10_noNotes_0 : decode cX10_noNotes 0 = .ok (.aload_n 0, 1) := by decide +kernel
theorem dX10_noNotes_1 : decode cX10_noNotes 1 = .ok (.iload_n 1, 1) := by decide +kernel
theorem dX10_noNotes_2 : decode cX10_noNotes 2 = .ok (.invokevirtual 115, 3) := by decide +kernel
theorem dX10_noNotes_5 : decode cX10_noNotes 5 = .ok (.istore_n 3, 1) := by decide +kernel
theorem dX10_noNotes_6 : decode cX10_noNotes 6 = .ok (.iload_n 3, 1) := by decide +kernel
theorem dX10_noNotes_7 : decode cX10_noNotes 7 = .ok (.ifCond .eq 5, 3) := by decide +kernel
theorem dX10_noNotes_10 : decode cX10_noNotes 10 = .ok (.iload_n 3, 1) := by decide +kernel
theorem dX10_noNotes_11 : decode cX10_noNotes 11 = .ok (.ireturn, 1) := by decide +kernel
theorem dX10_noNotes_12 : decode cX10_noNotes 12 = .ok (.aload_n 0, 1) := by decide +kernel
theorem dX10_noNotes_13 : decode cX10_noNotes 13 = .ok (.getfield 16, 3) := by decide +kernel
theorem dX10_noNotes_16 : decode cX10_noNotes 16 = .ok (.iload_n 1, 1) := by decide +kernel
theorem dX10_noNotes_17 : decode cX10_noNotes 17 = .ok (.iaload, 1) := by decide +kernel
theorem dX10_noNotes_18 : decode cX10_noNotes 18 = .ok (.iload_n 2, 1) := by decide +kernel
theorem dX10_noNotes_19 : decode cX10_noNotes 19 = .ok (.if_icmp .ge 10, 3) := by decide +kernel
theorem dX10_noNotes_22 : decode cX10_noNotes 22 = .ok (.aload_n 0, 1) := by decide +kernel
theorem dX10_noNotes_23 : decode cX10_noNotes 23 = .ok (.bipush (-2), 2) := by decide +kernel
theorem dX10_noNotes_25 : decode cX10_noNotes 25 = .ok (.invokevirtual 107, 3) := by decide +kernel
theorem dX10_noNotes_28 : decode cX10_noNotes 28 = .ok (.ireturn, 1) := by decide +kernel
theorem dX10_noNotes_29 : decode cX10_noNotes 29 = .ok (.iconst 0, 1) := by decide +kernel
theorem dX10_noNotes_30 : decode cX10_noNotes 30 = .ok (.istore 4, 2) := by decide +kernel
theorem dX10_noNotes_32 : decode cX10_noNotes 32 = .ok (.iload 4, 2) := by decide +kernel
theorem dX10_noNotes_34 : decode cX10_noNotes 34 = .ok (.iload_n 2, 1) := by decide +kernel
theorem dX10_noNotes_35 : decode cX10_noNotes 35 = .ok (.if_icmp .ge 51, 3) := by decide +kernel
theorem dX10_noNotes_38 : decode cX10_noNotes 38 = .ok (.aload_n 0, 1) := by decide +kernel
theorem dX10_noNotes_39 : decode cX10_noNotes 39 = .ok (.getfield 21, 3) := by decide +kernel
theorem dX10_noNotes_42 : decode cX10_noNotes 42 = .ok (.iload_n 1, 1) := by decide +kernel
theorem dX10_noNotes_43 : decode cX10_noNotes 43 = .ok (.aaload, 1) := by decide +kernel
theorem dX10_noNotes_44 : decode cX10_noNotes 44 = .ok (.iload 4, 2) := by decide +kernel
theorem dX10_noNotes_46 : decode cX10_noNotes 46 = .ok (.laload, 1) := by decide +kernel
theorem dX10_noNotes_47 : decode cX10_noNotes 47 = .ok (.lconst 0, 1) := by decide +kernel
theorem dX10_noNotes_48 : decode cX10_noNotes 48 = .ok (.ldc2_w 103, 3) := by decide +kernel
theorem dX10_noNotes_51 : decode cX10_noNotes 51 = .ok (.invokestatic 91, 3) := by decide +kernel
theorem dX10_noNotes_54 : decode cX10_noNotes 54 = .ok (.ifCond .ne 26, 3) := by decide +kernel
theorem dX10_noNotes_57 : decode cX10_noNotes 57 = .ok (.aload_n 0, 1) := by decide +kernel
theorem dX10_noNotes_58 : decode cX10_noNotes 58 = .ok (.getfield 21, 3) := by decide +kernel
theorem dX10_noNotes_61 : decode cX10_noNotes 61 = .ok (.iload_n 1, 1) := by decide +kernel
theorem dX10_noNotes_62 : decode cX10_noNotes 62 = .ok (.aaload, 1) := by decide +kernel
theorem dX10_noNotes_63 : decode cX10_noNotes 63 = .ok (.iload 4, 2) := by decide +kernel
theorem dX10_noNotes_65 : decode cX10_noNotes 65 = .ok (.laload, 1) := by decide +kernel
theorem dX10_noNotes_66 : decode cX10_noNotes 66 = .ok (.ldc2_w 146, 3) := by decide +kernel
theorem dX10_noNotes_69 : decode cX10_noNotes 69 = .ok (.lcmp, 1) := by decide +kernel
theorem dX10_noNotes_70 : decode cX10_noNotes 70 = .ok (.ifCond .eq 10, 3) := by decide +kernel
theorem dX10_noNotes_73 : decode cX10_noNotes 73 = .ok (.aload_n 0, 1) := by decide +kernel
theorem dX10_noNotes_74 : decode cX10_noNotes 74 = .ok (.bipush (-5), 2) := by decide +kernel
theorem dX10_noNotes_76 : decode cX10_noNotes 76 = .ok (.invokevirtual 107, 3) := by decide +kernel
theorem dX10_noNotes_79 : decode cX10_noNotes 79 = .ok (.ireturn, 1) := by decide +kernel
theorem dX10_noNotes_80 : decode cX10_noNotes 80 = .ok (.iinc 4 1, 3) := by decide +kernel
theorem dX10_noNotes_83 : decode cX10_noNotes 83 = .ok (.goto (-51), 3) := by decide +kernel
theorem dX10_noNotes_86 : decode cX10_noNotes 86 = .ok (.iconst 0, 1) := by decide +kernel
theorem dX10_noNotes_87 : decode cX10_noNotes 87 = .ok (.ireturn, 1) := by decide +kernel
theorem dX10_noHearing_0 : decode cX10_noHearing 0 = .ok (.iload_n 1, 1) := by decide +kernel
theorem dX10_noHearing_1 : decode cX10_noHearing 1 = .ok (.i2l, 1) := by decide +kernel
theorem dX10_noHearing_2 : decode cX10_noHearing 2 = .ok (.lconst 0, 1) := by decide +kernel
theorem dX10_noHearing_3 : decode cX10_noHearing 3 = .ok (.ldc2_w 101, 3) := by decide +kernel
theorem dX10_noHearing_6 : decode cX10_noHearing 6 = .ok (.invokestatic 91, 3) := by decide +kernel
theorem dX10_noHearing_9 : decode cX10_noHearing 9 = .ok (.ifCond .eq 20, 3) := by decide +kernel
theorem dX10_noHearing_12 : decode cX10_noHearing 12 = .ok (.iload_n 2, 1) := by decide +kernel
theorem dX10_noHearing_13 : decode cX10_noHearing 13 = .ok (.i2l, 1) := by decide +kernel
theorem dX10_noHearing_14 : decode cX10_noHearing 14 = .ok (.lconst 0, 1) := by decide +kernel
theorem dX10_noHearing_15 : decode cX10_noHearing 15 = .ok (.ldc2_w 139, 3) := by decide +kernel
theorem dX10_noHearing_18 : decode cX10_noHearing 18 = .ok (.invokestatic 91, 3) := by decide +kernel
theorem dX10_noHearing_21 : decode cX10_noHearing 21 = .ok (.ifCond .eq 8, 3) := by decide +kernel
theorem dX10_noHearing_24 : decode cX10_noHearing 24 = .ok (.iload 4, 2) := by decide +kernel
theorem dX10_noHearing_26 : decode cX10_noHearing 26 = .ok (.ifCond .ne 10, 3) := by decide +kernel
theorem dX10_noHearing_29 : decode cX10_noHearing 29 = .ok (.aload_n 0, 1) := by decide +kernel
theorem dX10_noHearing_30 : decode cX10_noHearing 30 = .ok (.bipush (-2), 2) := by decide +kernel
theorem dX10_noHearing_32 : decode cX10_noHearing 32 = .ok (.invokevirtual 107, 3) := by decide +kernel
theorem dX10_noHearing_35 : decode cX10_noHearing 35 = .ok (.ireturn, 1) := by decide +kernel
theorem dX10_noHearing_36 : decode cX10_noHearing 36 = .ok (.aload_n 0, 1) := by decide +kernel
theorem dX10_noHearing_37 : decode cX10_noHearing 37 = .ok (.iload_n 1, 1) := by decide +kernel
theorem dX10_noHearing_38 : decode cX10_noHearing 38 = .ok (.iload_n 2, 1) := by decide +kernel
theorem dX10_noHearing_39 : decode cX10_noHearing 39 = .ok (.invokevirtual 268, 3) := by decide +kernel
theorem dX10_noHearing_42 : decode cX10_noHearing 42 = .ok (.istore 5, 2) := by decide +kernel
theorem dX10_noHearing_44 : decode cX10_noHearing 44 = .ok (.iload 5, 2) := by decide +kernel
theorem dX10_noHearing_46 : decode cX10_noHearing 46 = .ok (.ifCond .eq 6, 3) := by decide +kernel
theorem dX10_noHearing_49 : decode cX10_noHearing 49 = .ok (.iload 5, 2) := by decide +kernel
theorem dX10_noHearing_51 : decode cX10_noHearing 51 = .ok (.ireturn, 1) := by decide +kernel
theorem dX10_noHearing_52 : decode cX10_noHearing 52 = .ok (.aload_n 0, 1) := by decide +kernel
theorem dX10_noHearing_53 : decode cX10_noHearing 53 = .ok (.iload_n 2, 1) := by decide +kernel
theorem dX10_noHearing_54 : decode cX10_noHearing 54 = .ok (.putfield 262, 3) := by decide +kernel
theorem dX10_noHearing_57 : decode cX10_noHearing 57 = .ok (.aload_n 0, 1) := by decide +kernel
theorem dX10_noHearing_58 : decode cX10_noHearing 58 = .ok (.iload_n 3, 1) := by decide +kernel
theorem dX10_noHearing_59 : decode cX10_noHearing 59 = .ok (.putfield 258, 3) := by decide +kernel
theorem dX10_noHearing_62 : decode cX10_noHearing 62 = .ok (.iconst 0, 1) := by decide +kernel
theorem dX10_noHearing_63 : decode cX10_noHearing 63 = .ok (.istore 6, 2) := by decide +kernel
theorem dX10_noHearing_65 : decode cX10_noHearing 65 = .ok (.iload 6, 2) := by decide +kernel
theorem dX10_noHearing_67 : decode cX10_noHearing 67 = .ok (.iload_n 2, 1) := by decide +kernel
theorem dX10_noHearing_68 : decode cX10_noHearing 68 = .ok (.if_icmp .ge 25, 3) := by decide +kernel
theorem dX10_noHearing_71 : decode cX10_noHearing 71 = .ok (.aload_n 0, 1) := by decide +kernel
theorem dX10_noHearing_72 : decode cX10_noHearing 72 = .ok (.getfield 76, 3) := by decide +kernel
theorem dX10_noHearing_75 : decode cX10_noHearing 75 = .ok (.iload 6, 2) := by decide +kernel
theorem dX10_noHearing_77 : decode cX10_noHearing 77 = .ok (.aload_n 0, 1) := by decide +kernel
theorem dX10_noHearing_78 : decode cX10_noHearing 78 = .ok (.getfield 21, 3) := by decide +kernel
theorem dX10_noHearing_81 : decode cX10_noHearing 81 = .ok (.iload_n 1, 1) := by decide +kernel
theorem dX10_noHearing_82 : decode cX10_noHearing 82 = .ok (.aaload, 1) := by decide +kernel
theorem dX10_noHearing_83 : decode cX10_noHearing 83 = .ok (.iload 6, 2) := by decide +kernel
theorem dX10_noHearing_85 : decode cX10_noHearing 85 = .ok (.laload, 1) := by decide +kernel
theorem dX10_noHearing_86 : decode cX10_noHearing 86 = .ok (.lastore, 1) := by decide +kernel
theorem dX10_noHearing_87 : decode cX10_noHearing 87 = .ok (.iinc 6 1, 3) := by decide +kernel
theorem dX10_noHearing_90 : decode cX10_noHearing 90 = .ok (.goto (-25), 3) := by decide +kernel
theorem dX10_noHearing_93 : decode cX10_noHearing 93 = .ok (.iconst 0, 1) := by decide +kernel
theorem dX10_noHearing_94 : decode cX10_noHearing 94 = .ok (.ireturn, 1) := by decide +kernel
theorem dX10_fits_0 : decode cX10_fits 0 = .ok (.aload_n 0, 1) := by decide +kernel
theorem dX10_fits_1 : decode cX10_fits 1 = .ok (.iload_n 1, 1) := by decide +kernel
theorem dX10_fits_2 : decode cX10_fits 2 = .ok (.iload_n 2, 1) := by decide +kernel
theorem dX10_fits_3 : decode cX10_fits 3 = .ok (.iload_n 3, 1) := by decide +kernel
theorem dX10_fits_4 : decode cX10_fits 4 = .ok (.aload_n 0, 1) := by decide +kernel
theorem dX10_fits_5 : decode cX10_fits 5 = .ok (.iload 4, 2) := by decide +kernel
theorem dX10_fits_7 : decode cX10_fits 7 = .ok (.invokevirtual 122, 3) := by decide +kernel
theorem dX10_fits_10 : decode cX10_fits 10 = .ok (.ifCond .eq 16, 3) := by decide +kernel
theorem dX10_fits_13 : decode cX10_fits 13 = .ok (.aload_n 0, 1) := by decide +kernel
theorem dX10_fits_14 : decode cX10_fits 14 = .ok (.iload 5, 2) := by decide +kernel
theorem dX10_fits_16 : decode cX10_fits 16 = .ok (.invokevirtual 155, 3) := by decide +kernel
theorem dX10_fits_19 : decode cX10_fits 19 = .ok (.ifCond .eq 7, 3) := by decide +kernel
theorem dX10_fits_22 : decode cX10_fits 22 = .ok (.iconst 1, 1) := by decide +kernel
theorem dX10_fits_23 : decode cX10_fits 23 = .ok (.goto 4, 3) := by decide +kernel
theorem dX10_fits_26 : decode cX10_fits 26 = .ok (.iconst 0, 1) := by decide +kernel
theorem dX10_fits_27 : decode cX10_fits 27 = .ok (.invokevirtual 272, 3) := by decide +kernel
theorem dX10_fits_30 : decode cX10_fits 30 = .ok (.istore 6, 2) := by decide +kernel
theorem dX10_fits_32 : decode cX10_fits 32 = .ok (.iload 6, 2) := by decide +kernel
theorem dX10_fits_34 : decode cX10_fits 34 = .ok (.ifCond .eq 8, 3) := by decide +kernel
theorem dX10_fits_37 : decode cX10_fits 37 = .ok (.iload 6, 2) := by decide +kernel
theorem dX10_fits_39 : decode cX10_fits 39 = .ok (.goto 19, 3) := by decide +kernel
theorem dX10_fits_42 : decode cX10_fits 42 = .ok (.aload_n 0, 1) := by decide +kernel
theorem dX10_fits_43 : decode cX10_fits 43 = .ok (.iload 5, 2) := by decide +kernel
theorem dX10_fits_45 : decode cX10_fits 45 = .ok (.iload 4, 2) := by decide +kernel
theorem dX10_fits_47 : decode cX10_fits 47 = .ok (.invokevirtual 265, 3) := by decide +kernel
theorem dX10_fits_50 : decode cX10_fits 50 = .ok (.ifCond .eq 7, 3) := by decide +kernel
theorem dX10_fits_53 : decode cX10_fits 53 = .ok (.iconst 1, 1) := by decide +kernel
theorem dX10_fits_54 : decode cX10_fits 54 = .ok (.goto 4, 3) := by decide +kernel
theorem dX10_fits_57 : decode cX10_fits 57 = .ok (.iconst 0, 1) := by decide +kernel
theorem dX10_fits_58 : decode cX10_fits 58 = .ok (.ireturn, 1) := by decide +kernel
theorem dX10_likely_0 : decode cX10_likely 0 = .ok (.aload_n 0, 1) := by decide +kernel
theorem dX10_likely_1 : decode cX10_likely 1 = .ok (.iload_n 1, 1) := by decide +kernel
theorem dX10_likely_2 : decode cX10_likely 2 = .ok (.iload_n 2, 1) := by decide +kernel
theorem dX10_likely_3 : decode cX10_likely 3 = .ok (.iload_n 3, 1) := by decide +kernel
theorem dX10_likely_4 : decode cX10_likely 4 = .ok (.aload_n 0, 1) := by decide +kernel
theorem dX10_likely_5 : decode cX10_likely 5 = .ok (.iload 4, 2) := by decide +kernel
theorem dX10_likely_7 : decode cX10_likely 7 = .ok (.invokevirtual 122, 3) := by decide +kernel
theorem dX10_likely_10 : decode cX10_likely 10 = .ok (.ifCond .eq 16, 3) := by decide +kernel
theorem dX10_likely_13 : decode cX10_likely 13 = .ok (.aload_n 0, 1) := by decide +kernel
theorem dX10_likely_14 : decode cX10_likely 14 = .ok (.iload 5, 2) := by decide +kernel
theorem dX10_likely_16 : decode cX10_likely 16 = .ok (.invokevirtual 155, 3) := by decide +kernel
theorem dX10_likely_19 : decode cX10_likely 19 = .ok (.ifCond .eq 7, 3) := by decide +kernel
theorem dX10_likely_22 : decode cX10_likely 22 = .ok (.iconst 1, 1) := by decide +kernel
theorem dX10_likely_23 : decode cX10_likely 23 = .ok (.goto 4, 3) := by decide +kernel
theorem dX10_likely_26 : decode cX10_likely 26 = .ok (.iconst 0, 1) := by decide +kernel
theorem dX10_likely_27 : decode cX10_likely 27 = .ok (.invokevirtual 272, 3) := by decide +kernel
theorem dX10_likely_30 : decode cX10_likely 30 = .ok (.istore 6, 2) := by decide +kernel
theorem dX10_likely_32 : decode cX10_likely 32 = .ok (.iload 6, 2) := by decide +kernel
theorem dX10_likely_34 : decode cX10_likely 34 = .ok (.ifCond .eq 8, 3) := by decide +kernel
theorem dX10_likely_37 : decode cX10_likely 37 = .ok (.iload 6, 2) := by decide +kernel
theorem dX10_likely_39 : decode cX10_likely 39 = .ok (.goto 11, 3) := by decide +kernel
theorem dX10_likely_42 : decode cX10_likely 42 = .ok (.aload_n 0, 1) := by decide +kernel
theorem dX10_likely_43 : decode cX10_likely 43 = .ok (.iload 5, 2) := by decide +kernel
theorem dX10_likely_45 : decode cX10_likely 45 = .ok (.iload 4, 2) := by decide +kernel
theorem dX10_likely_47 : decode cX10_likely 47 = .ok (.invokevirtual 276, 3) := by decide +kernel
theorem dX10_likely_50 : decode cX10_likely 50 = .ok (.ireturn, 1) := by decide +kernel
theorem dX10_guess_0 : decode cX10_guess 0 = .ok (.aload_n 0, 1) := by decide +kernel
theorem dX10_guess_1 : decode cX10_guess 1 = .ok (.iload_n 1, 1) := by decide +kernel
theorem dX10_guess_2 : decode cX10_guess 2 = .ok (.iload_n 2, 1) := by decide +kernel
theorem dX10_guess_3 : decode cX10_guess 3 = .ok (.iload_n 3, 1) := by decide +kernel
theorem dX10_guess_4 : decode cX10_guess 4 = .ok (.aload_n 0, 1) := by decide +kernel
theorem dX10_guess_5 : decode cX10_guess 5 = .ok (.iload 4, 2) := by decide +kernel
theorem dX10_guess_7 : decode cX10_guess 7 = .ok (.invokevirtual 122, 3) := by decide +kernel
theorem dX10_guess_10 : decode cX10_guess 10 = .ok (.invokevirtual 272, 3) := by decide +kernel
theorem dX10_guess_13 : decode cX10_guess 13 = .ok (.istore 5, 2) := by decide +kernel
theorem dX10_guess_15 : decode cX10_guess 15 = .ok (.iload 5, 2) := by decide +kernel
theorem dX10_guess_17 : decode cX10_guess 17 = .ok (.ifCond .eq 8, 3) := by decide +kernel
theorem dX10_guess_20 : decode cX10_guess 20 = .ok (.iload 5, 2) := by decide +kernel
theorem dX10_guess_22 : decode cX10_guess 22 = .ok (.goto 9, 3) := by decide +kernel
theorem dX10_guess_25 : decode cX10_guess 25 = .ok (.aload_n 0, 1) := by decide +kernel
theorem dX10_guess_26 : decode cX10_guess 26 = .ok (.iload 4, 2) := by decide +kernel
theorem dX10_guess_28 : decode cX10_guess 28 = .ok (.invokevirtual 279, 3) := by decide +kernel
theorem dX10_guess_31 : decode cX10_guess 31 = .ok (.ireturn, 1) := by decide +kernel
theorem dX10_next_0 : decode cX10_next 0 = .ok (.aload_n 0, 1) := by decide +kernel
theorem dX10_next_1 : decode cX10_next 1 = .ok (.iload_n 1, 1) := by decide +kernel
theorem dX10_next_2 : decode cX10_next 2 = .ok (.iload_n 2, 1) := by decide +kernel
theorem dX10_next_3 : decode cX10_next 3 = .ok (.iconst 0, 1) := by decide +kernel
theorem dX10_next_4 : decode cX10_next 4 = .ok (.aload_n 0, 1) := by decide +kernel
theorem dX10_next_5 : decode cX10_next 5 = .ok (.iload_n 3, 1) := by decide +kernel
theorem dX10_next_6 : decode cX10_next 6 = .ok (.invokevirtual 122, 3) := by decide +kernel
theorem dX10_next_9 : decode cX10_next 9 = .ok (.invokevirtual 272, 3) := by decide +kernel
theorem dX10_next_12 : decode cX10_next 12 = .ok (.istore 4, 2) := by decide +kernel
theorem dX10_next_14 : decode cX10_next 14 = .ok (.iload 4, 2) := by decide +kernel
theorem dX10_next_16 : decode cX10_next 16 = .ok (.ifCond .eq 6, 3) := by decide +kernel
theorem dX10_next_19 : decode cX10_next 19 = .ok (.iload 4, 2) := by decide +kernel
theorem dX10_next_21 : decode cX10_next 21 = .ok (.ireturn, 1) := by decide +kernel
theorem dX10_next_22 : decode cX10_next 22 = .ok (.iconst 0, 1) := by decide +kernel
theorem dX10_next_23 : decode cX10_next 23 = .ok (.istore 5, 2) := by decide +kernel
theorem dX10_next_25 : decode cX10_next 25 = .ok (.iconst 0, 1) := by decide +kernel
theorem dX10_next_26 : decode cX10_next 26 = .ok (.istore 6, 2) := by decide +kernel
theorem dX10_next_28 : decode cX10_next 28 = .ok (.iload 6, 2) := by decide +kernel
theorem dX10_next_30 : decode cX10_next 30 = .ok (.aload_n 0, 1) := by decide +kernel
theorem dX10_next_31 : decode cX10_next 31 = .ok (.getfield 88, 3) := by decide +kernel
theorem dX10_next_34 : decode cX10_next 34 = .ok (.if_icmp .ge 65, 3) := by decide +kernel
theorem dX10_next_37 : decode cX10_next 37 = .ok (.aload_n 0, 1) := by decide +kernel
theorem dX10_next_38 : decode cX10_next 38 = .ok (.iload 6, 2) := by decide +kernel
theorem dX10_next_40 : decode cX10_next 40 = .ok (.iload_n 3, 1) := by decide +kernel
theorem dX10_next_41 : decode cX10_next 41 = .ok (.invokevirtual 265, 3) := by decide +kernel
theorem dX10_next_44 : decode cX10_next 44 = .ok (.ifCond .eq 49, 3) := by decide +kernel
theorem dX10_next_47 : decode cX10_next 47 = .ok (.iload_n 2, 1) := by decide +kernel
theorem dX10_next_48 : decode cX10_next 48 = .ok (.aload_n 0, 1) := by decide +kernel
theorem dX10_next_49 : decode cX10_next 49 = .ok (.getfield 42, 3) := by decide +kernel
theorem dX10_next_52 : decode cX10_next 52 = .ok (.iload 6, 2) := by decide +kernel
theorem dX10_next_54 : decode cX10_next 54 = .ok (.iaload, 1) := by decide +kernel
theorem dX10_next_55 : decode cX10_next 55 = .ok (.if_icmp .ge 14, 3) := by decide +kernel
theorem dX10_next_58 : decode cX10_next 58 = .ok (.aload_n 0, 1) := by decide +kernel
theorem dX10_next_59 : decode cX10_next 59 = .ok (.iload 6, 2) := by decide +kernel
theorem dX10_next_61 : decode cX10_next 61 = .ok (.iload_n 3, 1) := by decide +kernel
theorem dX10_next_62 : decode cX10_next 62 = .ok (.iload_n 2, 1) := by decide +kernel
theorem dX10_next_63 : decode cX10_next 63 = .ok (.invokevirtual 254, 3) := by decide +kernel
theorem dX10_next_66 : decode cX10_next 66 = .ok (.goto 5, 3) := by decide +kernel
theorem dX10_next_69 : decode cX10_next 69 = .ok (.bipush 6, 2) := by decide +kernel
theorem dX10_next_71 : decode cX10_next 71 = .ok (.istore 7, 2) := by decide +kernel
theorem dX10_next_73 : decode cX10_next 73 = .ok (.iload 5, 2) := by decide +kernel
theorem dX10_next_75 : decode cX10_next 75 = .ok (.iconst 1, 1) := by decide +kernel
theorem dX10_next_76 : decode cX10_next 76 = .ok (.iload 7, 2) := by decide +kernel
theorem dX10_next_78 : decode cX10_next 78 = .ok (.bipush 9, 2) := by decide +kernel
theorem dX10_next_80 : decode cX10_next 80 = .ok (.if_icmp .ne 7, 3) := by decide +kernel
theorem dX10_next_83 : decode cX10_next 83 = .ok (.iconst 5, 1) := by decide +kernel
theorem dX10_next_84 : decode cX10_next 84 = .ok (.goto 5, 3) := by decide +kernel
theorem dX10_next_87 : decode cX10_next 87 = .ok (.iload 7, 2) := by decide +kernel
theorem dX10_next_89 : decode cX10_next 89 = .ok (.ishl, 1) := by decide +kernel
theorem dX10_next_90 : decode cX10_next 90 = .ok (.ior, 1) := by decide +kernel
theorem dX10_next_91 : decode cX10_next 91 = .ok (.istore 5, 2) := by decide +kernel
theorem dX10_next_93 : decode cX10_next 93 = .ok (.iinc 6 1, 3) := by decide +kernel
theorem dX10_next_96 : decode cX10_next 96 = .ok (.goto (-68), 3) := by decide +kernel
theorem dX10_next_99 : decode cX10_next 99 = .ok (.iload 5, 2) := by decide +kernel
theorem dX10_next_101 : decode cX10_next 101 = .ok (.ireturn, 1) := by decide +kernel
theorem dX10_when_0 : decode cX10_when 0 = .ok (.aload_n 0, 1) := by decide +kernel
theorem dX10_when_1 : decode cX10_when 1 = .ok (.iload_n 1, 1) := by decide +kernel
theorem dX10_when_2 : decode cX10_when 2 = .ok (.iload_n 2, 1) := by decide +kernel
theorem dX10_when_3 : decode cX10_when 3 = .ok (.iconst 0, 1) := by decide +kernel
theorem dX10_when_4 : decode cX10_when 4 = .ok (.aload_n 0, 1) := by decide +kernel
theorem dX10_when_5 : decode cX10_when 5 = .ok (.iload_n 3, 1) := by decide +kernel
theorem dX10_when_6 : decode cX10_when 6 = .ok (.invokevirtual 122, 3) := by decide +kernel
theorem dX10_when_9 : decode cX10_when 9 = .ok (.invokevirtual 272, 3) := by decide +kernel
theorem dX10_when_12 : decode cX10_when 12 = .ok (.istore 4, 2) := by decide +kernel
theorem dX10_when_14 : decode cX10_when 14 = .ok (.iload 4, 2) := by decide +kernel
theorem dX10_when_16 : decode cX10_when 16 = .ok (.ifCond .eq 6, 3) := by decide +kernel
theorem dX10_when_19 : decode cX10_when 19 = .ok (.iload 4, 2) := by decide +kernel
theorem dX10_when_21 : decode cX10_when 21 = .ok (.ireturn, 1) := by decide +kernel
theorem dX10_when_22 : decode cX10_when 22 = .ok (.iconst 0, 1) := by decide +kernel
theorem dX10_when_23 : decode cX10_when 23 = .ok (.istore 5, 2) := by decide +kernel
theorem dX10_when_25 : decode cX10_when 25 = .ok (.iload 5, 2) := by decide +kernel
theorem dX10_when_27 : decode cX10_when 27 = .ok (.iload_n 2, 1) := by decide +kernel
theorem dX10_when_28 : decode cX10_when 28 = .ok (.if_icmp .gt 45, 3) := by decide +kernel
theorem dX10_when_31 : decode cX10_when 31 = .ok (.aload_n 0, 1) := by decide +kernel
theorem dX10_when_32 : decode cX10_when 32 = .ok (.iload 5, 2) := by decide +kernel
theorem dX10_when_34 : decode cX10_when 34 = .ok (.putfield 262, 3) := by decide +kernel
theorem dX10_when_37 : decode cX10_when 37 = .ok (.aload_n 0, 1) := by decide +kernel
theorem dX10_when_38 : decode cX10_when 38 = .ok (.iload_n 3, 1) := by decide +kernel
theorem dX10_when_39 : decode cX10_when 39 = .ok (.invokevirtual 279, 3) := by decide +kernel
theorem dX10_when_42 : decode cX10_when 42 = .ok (.istore 6, 2) := by decide +kernel
theorem dX10_when_44 : decode cX10_when 44 = .ok (.iload 6, 2) := by decide +kernel
theorem dX10_when_46 : decode cX10_when 46 = .ok (.iconst (-1), 1) := by decide +kernel
theorem dX10_when_47 : decode cX10_when 47 = .ok (.if_icmp .eq 20, 3) := by decide +kernel
theorem dX10_when_50 : decode cX10_when 50 = .ok (.aload_n 0, 1) := by decide +kernel
theorem dX10_when_51 : decode cX10_when 51 = .ok (.iload 6, 2) := by decide +kernel
theorem dX10_when_53 : decode cX10_when 53 = .ok (.iload_n 3, 1) := by decide +kernel
theorem dX10_when_54 : decode cX10_when 54 = .ok (.invokevirtual 276, 3) := by decide +kernel
theorem dX10_when_57 : decode cX10_when 57 = .ok (.aload_n 0, 1) := by decide +kernel
theorem dX10_when_58 : decode cX10_when 58 = .ok (.getfield 63, 3) := by decide +kernel
theorem dX10_when_61 : decode cX10_when 61 = .ok (.if_icmp .lt 6, 3) := by decide +kernel
theorem dX10_when_64 : decode cX10_when 64 = .ok (.iload 5, 2) := by decide +kernel
theorem dX10_when_66 : decode cX10_when 66 = .ok (.ireturn, 1) := by decide +kernel
theorem dX10_when_67 : decode cX10_when 67 = .ok (.iinc 5 1, 3) := by decide +kernel
theorem dX10_when_70 : decode cX10_when 70 = .ok (.goto (-45), 3) := by decide +kernel
theorem dX10_when_73 : decode cX10_when 73 = .ok (.iconst (-1), 1) := by decide +kernel
theorem dX10_when_74 : decode cX10_when 74 = .ok (.ireturn, 1) := by decide +kernel
theorem dX10_apartOf_0 : decode cX10_apartOf 0 = .ok (.aload_n 0, 1) := by decide +kernel
theorem dX10_apartOf_1 : decode cX10_apartOf 1 = .ok (.getfield 42, 3) := by decide +kernel
theorem dX10_apartOf_4 : decode cX10_apartOf 4 = .ok (.iload_n 1, 1) := by decide +kernel
theorem dX10_apartOf_5 : decode cX10_apartOf 5 = .ok (.iaload, 1) := by decide +kernel
theorem dX10_apartOf_6 : decode cX10_apartOf 6 = .ok (.aload_n 0, 1) := by decide +kernel
theorem dX10_apartOf_7 : decode cX10_apartOf 7 = .ok (.getfield 42, 3) := by decide +kernel
theorem dX10_apartOf_10 : decode cX10_apartOf 10 = .ok (.iload_n 2, 1) := by decide +kernel
theorem dX10_apartOf_11 : decode cX10_apartOf 11 = .ok (.iaload, 1) := by decide +kernel
theorem dX10_apartOf_12 : decode cX10_apartOf 12 = .ok (.if_icmp .le 12, 3) := by decide +kernel
theorem dX10_apartOf_15 : decode cX10_apartOf 15 = .ok (.aload_n 0, 1) := by decide +kernel
theorem dX10_apartOf_16 : decode cX10_apartOf 16 = .ok (.getfield 42, 3) := by decide +kernel
theorem dX10_apartOf_19 : decode cX10_apartOf 19 = .ok (.iload_n 1, 1) := by decide +kernel
theorem dX10_apartOf_20 : decode cX10_apartOf 20 = .ok (.iaload, 1) := by decide +kernel
theorem dX10_apartOf_21 : decode cX10_apartOf 21 = .ok (.goto 9, 3) := by decide +kernel
theorem dX10_apartOf_24 : decode cX10_apartOf 24 = .ok (.aload_n 0, 1) := by decide +kernel
theorem dX10_apartOf_25 : decode cX10_apartOf 25 = .ok (.getfield 42, 3) := by decide +kernel
theorem dX10_apartOf_28 : decode cX10_apartOf 28 = .ok (.iload_n 2, 1) := by decide +kernel
theorem dX10_apartOf_29 : decode cX10_apartOf 29 = .ok (.iaload, 1) := by decide +kernel
theorem dX10_apartOf_30 : decode cX10_apartOf 30 = .ok (.istore_n 3, 1) := by decide +kernel
theorem dX10_apartOf_31 : decode cX10_apartOf 31 = .ok (.iconst 0, 1) := by decide +kernel
theorem dX10_apartOf_32 : decode cX10_apartOf 32 = .ok (.istore 4, 2) := by decide +kernel
theorem dX10_apartOf_34 : decode cX10_apartOf 34 = .ok (.iconst 0, 1) := by decide +kernel
theorem dX10_apartOf_35 : decode cX10_apartOf 35 = .ok (.istore 5, 2) := by decide +kernel
theorem dX10_apartOf_37 : decode cX10_apartOf 37 = .ok (.iload 5, 2) := by decide +kernel
theorem dX10_apartOf_39 : decode cX10_apartOf 39 = .ok (.iload_n 3, 1) := by decide +kernel
theorem dX10_apartOf_40 : decode cX10_apartOf 40 = .ok (.if_icmp .ge 62, 3) := by decide +kernel
theorem dX10_apartOf_43 : decode cX10_apartOf 43 = .ok (.iload 4, 2) := by decide +kernel
theorem dX10_apartOf_45 : decode cX10_apartOf 45 = .ok (.iload 5, 2) := by decide +kernel
theorem dX10_apartOf_47 : decode cX10_apartOf 47 = .ok (.aload_n 0, 1) := by decide +kernel
theorem dX10_apartOf_48 : decode cX10_apartOf 48 = .ok (.getfield 42, 3) := by decide +kernel
theorem dX10_apartOf_51 : decode cX10_apartOf 51 = .ok (.iload_n 1, 1) := by decide +kernel
theorem dX10_apartOf_52 : decode cX10_apartOf 52 = .ok (.iaload, 1) := by decide +kernel
theorem dX10_apartOf_53 : decode cX10_apartOf 53 = .ok (.if_icmp .ge 35, 3) := by decide +kernel
theorem dX10_apartOf_56 : decode cX10_apartOf 56 = .ok (.iload 5, 2) := by decide +kernel
theorem dX10_apartOf_58 : decode cX10_apartOf 58 = .ok (.aload_n 0, 1) := by decide +kernel
theorem dX10_apartOf_59 : decode cX10_apartOf 59 = .ok (.getfield 42, 3) := by decide +kernel
theorem dX10_apartOf_62 : decode cX10_apartOf 62 = .ok (.iload_n 2, 1) := by decide +kernel
theorem dX10_apartOf_63 : decode cX10_apartOf 63 = .ok (.iaload, 1) := by decide +kernel
theorem dX10_apartOf_64 : decode cX10_apartOf 64 = .ok (.if_icmp .ge 24, 3) := by decide +kernel
theorem dX10_apartOf_67 : decode cX10_apartOf 67 = .ok (.aload_n 0, 1) := by decide +kernel
theorem dX10_apartOf_68 : decode cX10_apartOf 68 = .ok (.getfield 39, 3) := by decide +kernel
theorem dX10_apartOf_71 : decode cX10_apartOf 71 = .ok (.iload_n 1, 1) := by decide +kernel
theorem dX10_apartOf_72 : decode cX10_apartOf 72 = .ok (.aaload, 1) := by decide +kernel
theorem dX10_apartOf_73 : decode cX10_apartOf 73 = .ok (.iload 5, 2) := by decide +kernel
theorem dX10_apartOf_75 : decode cX10_apartOf 75 = .ok (.iaload, 1) := by decide +kernel
theorem dX10_apartOf_76 : decode cX10_apartOf 76 = .ok (.aload_n 0, 1) := by decide +kernel
theorem dX10_apartOf_77 : decode cX10_apartOf 77 = .ok (.getfield 39, 3) := by decide +kernel
theorem dX10_apartOf_80 : decode cX10_apartOf 80 = .ok (.iload_n 2, 1) := by decide +kernel
theorem dX10_apartOf_81 : decode cX10_apartOf 81 = .ok (.aaload, 1) := by decide +kernel
theorem dX10_apartOf_82 : decode cX10_apartOf 82 = .ok (.iload 5, 2) := by decide +kernel
theorem dX10_apartOf_84 : decode cX10_apartOf 84 = .ok (.iaload, 1) := by decide +kernel
theorem dX10_apartOf_85 : decode cX10_apartOf 85 = .ok (.if_icmp .eq 7, 3) := by decide +kernel
theorem dX10_apartOf_88 : decode cX10_apartOf 88 = .ok (.iconst 1, 1) := by decide +kernel
theorem dX10_apartOf_89 : decode cX10_apartOf 89 = .ok (.goto 4, 3) := by decide +kernel
theorem dX10_apartOf_92 : decode cX10_apartOf 92 = .ok (.iconst 0, 1) := by decide +kernel
theorem dX10_apartOf_93 : decode cX10_apartOf 93 = .ok (.iadd, 1) := by decide +kernel
theorem dX10_apartOf_94 : decode cX10_apartOf 94 = .ok (.istore 4, 2) := by decide +kernel
theorem dX10_apartOf_96 : decode cX10_apartOf 96 = .ok (.iinc 5 1, 3) := by decide +kernel
theorem dX10_apartOf_99 : decode cX10_apartOf 99 = .ok (.goto (-62), 3) := by decide +kernel
theorem dX10_apartOf_102 : decode cX10_apartOf 102 = .ok (.iload 4, 2) := by decide +kernel
theorem dX10_apartOf_104 : decode cX10_apartOf 104 = .ok (.ireturn, 1) := by decide +kernel
theorem dX10_apart_0 : decode cX10_apart 0 = .ok (.aload_n 0, 1) := by decide +kernel
theorem dX10_apart_1 : decode cX10_apart 1 = .ok (.iload_n 1, 1) := by decide +kernel
theorem dX10_apart_2 : decode cX10_apart 2 = .ok (.invokevirtual 155, 3) := by decide +kernel
theorem dX10_apart_5 : decode cX10_apart 5 = .ok (.ifCond .eq 20, 3) := by decide +kernel
theorem dX10_apart_8 : decode cX10_apart 8 = .ok (.aload_n 0, 1) := by decide +kernel
theorem dX10_apart_9 : decode cX10_apart 9 = .ok (.iload_n 2, 1) := by decide +kernel
theorem dX10_apart_10 : decode cX10_apart 10 = .ok (.invokevirtual 155, 3) := by decide +kernel
theorem dX10_apart_13 : decode cX10_apart 13 = .ok (.ifCond .eq 12, 3) := by decide +kernel
theorem dX10_apart_16 : decode cX10_apart 16 = .ok (.aload_n 0, 1) := by decide +kernel
theorem dX10_apart_17 : decode cX10_apart 17 = .ok (.iload_n 1, 1) := by decide +kernel
theorem dX10_apart_18 : decode cX10_apart 18 = .ok (.iload_n 2, 1) := by decide +kernel
theorem dX10_apart_19 : decode cX10_apart 19 = .ok (.invokevirtual 282, 3) := by decide +kernel
theorem dX10_apart_22 : decode cX10_apart 22 = .ok (.goto 9, 3) := by decide +kernel
theorem dX10_apart_25 : decode cX10_apart 25 = .ok (.aload_n 0, 1) := by decide +kernel
theorem dX10_apart_26 : decode cX10_apart 26 = .ok (.bipush (-2), 2) := by decide +kernel
theorem dX10_apart_28 : decode cX10_apart 28 = .ok (.invokevirtual 107, 3) := by decide +kernel
theorem dX10_apart_31 : decode cX10_apart 31 = .ok (.ireturn, 1) := by decide +kernel
theorem dX10_isAlone_0 : decode cX10_isAlone 0 = .ok (.iconst 0, 1) := by decide +kernel
theorem dX10_isAlone_1 : decode cX10_isAlone 1 = .ok (.istore_n 3, 1) := by decide +kernel
theorem dX10_isAlone_2 : decode cX10_isAlone 2 = .ok (.iload_n 3, 1) := by decide +kernel
theorem dX10_isAlone_3 : decode cX10_isAlone 3 = .ok (.aload_n 0, 1) := by decide +kernel
theorem dX10_isAlone_4 : decode cX10_isAlone 4 = .ok (.getfield 88, 3) := by decide +kernel
theorem dX10_isAlone_7 : decode cX10_isAlone 7 = .ok (.if_icmp .ge 25, 3) := by decide +kernel
theorem dX10_isAlone_10 : decode cX10_isAlone 10 = .ok (.iload_n 3, 1) := by decide +kernel
theorem dX10_isAlone_11 : decode cX10_isAlone 11 = .ok (.iload_n 1, 1) := by decide +kernel
theorem dX10_isAlone_12 : decode cX10_isAlone 12 = .ok (.if_icmp .eq 14, 3) := by decide +kernel
theorem dX10_isAlone_15 : decode cX10_isAlone 15 = .ok (.aload_n 0, 1) := by decide +kernel
theorem dX10_isAlone_16 : decode cX10_isAlone 16 = .ok (.iload_n 3, 1) := by decide +kernel
theorem dX10_isAlone_17 : decode cX10_isAlone 17 = .ok (.iload_n 2, 1) := by decide +kernel
theorem dX10_isAlone_18 : decode cX10_isAlone 18 = .ok (.invokevirtual 265, 3) := by decide +kernel
theorem dX10_isAlone_21 : decode cX10_isAlone 21 = .ok (.ifCond .eq 5, 3) := by decide +kernel
theorem dX10_isAlone_24 : decode cX10_isAlone 24 = .ok (.iconst 0, 1) := by decide +kernel
theorem dX10_isAlone_25 : decode cX10_isAlone 25 = .ok (.ireturn, 1) := by decide +kernel
theorem dX10_isAlone_26 : decode cX10_isAlone 26 = .ok (.iinc 3 1, 3) := by decide +kernel
theorem dX10_isAlone_29 : decode cX10_isAlone 29 = .ok (.goto (-27), 3) := by decide +kernel
theorem dX10_isAlone_32 : decode cX10_isAlone 32 = .ok (.iconst 1, 1) := by decide +kernel
theorem dX10_isAlone_33 : decode cX10_isAlone 33 = .ok (.ireturn, 1) := by decide +kernel
theorem dX10_knownOf_0 : decode cX10_knownOf 0 = .ok (.iconst 0, 1) := by decide +kernel
theorem dX10_knownOf_1 : decode cX10_knownOf 1 = .ok (.istore_n 3, 1) := by decide +kernel
theorem dX10_knownOf_2 : decode cX10_knownOf 2 = .ok (.iload_n 3, 1) := by decide +kernel
theorem dX10_knownOf_3 : decode cX10_knownOf 3 = .ok (.aload_n 0, 1) := by decide +kernel
theorem dX10_knownOf_4 : decode cX10_knownOf 4 = .ok (.getfield 42, 3) := by decide +kernel
theorem dX10_knownOf_7 : decode cX10_knownOf 7 = .ok (.iload_n 1, 1) := by decide +kernel
theorem dX10_knownOf_8 : decode cX10_knownOf 8 = .ok (.iaload, 1) := by decide +kernel
theorem dX10_knownOf_9 : decode cX10_knownOf 9 = .ok (.if_icmp .gt 28, 3) := by decide +kernel
theorem dX10_knownOf_12 : decode cX10_knownOf 12 = .ok (.aload_n 0, 1) := by decide +kernel
theorem dX10_knownOf_13 : decode cX10_knownOf 13 = .ok (.iload_n 1, 1) := by decide +kernel
theorem dX10_knownOf_14 : decode cX10_knownOf 14 = .ok (.iload_n 2, 1) := by decide +kernel
theorem dX10_knownOf_15 : decode cX10_knownOf 15 = .ok (.iload_n 3, 1) := by decide +kernel
theorem dX10_knownOf_16 : decode cX10_knownOf 16 = .ok (.iconst 0, 1) := by decide +kernel
theorem dX10_knownOf_17 : decode cX10_knownOf 17 = .ok (.invokevirtual 285, 3) := by decide +kernel
theorem dX10_knownOf_20 : decode cX10_knownOf 20 = .ok (.aload_n 0, 1) := by decide +kernel
theorem dX10_knownOf_21 : decode cX10_knownOf 21 = .ok (.iload_n 1, 1) := by decide +kernel
theorem dX10_knownOf_22 : decode cX10_knownOf 22 = .ok (.iload_n 2, 1) := by decide +kernel
theorem dX10_knownOf_23 : decode cX10_knownOf 23 = .ok (.invokevirtual 289, 3) := by decide +kernel
theorem dX10_knownOf_26 : decode cX10_knownOf 26 = .ok (.ifCond .eq 5, 3) := by decide +kernel
theorem dX10_knownOf_29 : decode cX10_knownOf 29 = .ok (.iload_n 3, 1) := by decide +kernel
theorem dX10_knownOf_30 : decode cX10_knownOf 30 = .ok (.ireturn, 1) := by decide +kernel
theorem dX10_knownOf_31 : decode cX10_knownOf 31 = .ok (.iinc 3 1, 3) := by decide +kernel
theorem dX10_knownOf_34 : decode cX10_knownOf 34 = .ok (.goto (-32), 3) := by decide +kernel
theorem dX10_knownOf_37 : decode cX10_knownOf 37 = .ok (.aload_n 0, 1) := by decide +kernel
theorem dX10_knownOf_38 : decode cX10_knownOf 38 = .ok (.iconst 1, 1) := by decide +kernel
theorem dX10_knownOf_39 : decode cX10_knownOf 39 = .ok (.putfield 258, 3) := by decide +kernel
theorem dX10_knownOf_42 : decode cX10_knownOf 42 = .ok (.aload_n 0, 1) := by decide +kernel
theorem dX10_knownOf_43 : decode cX10_knownOf 43 = .ok (.iload_n 1, 1) := by decide +kernel
theorem dX10_knownOf_44 : decode cX10_knownOf 44 = .ok (.iload_n 2, 1) := by decide +kernel
theorem dX10_knownOf_45 : decode cX10_knownOf 45 = .ok (.invokevirtual 289, 3) := by decide +kernel
theorem dX10_knownOf_48 : decode cX10_knownOf 48 = .ok (.ifCond .eq 14, 3) := by decide +kernel
theorem dX10_knownOf_51 : decode cX10_knownOf 51 = .ok (.aload_n 0, 1) := by decide +kernel
theorem dX10_knownOf_52 : decode cX10_knownOf 52 = .ok (.getfield 42, 3) := by decide +kernel
theorem dX10_knownOf_55 : decode cX10_knownOf 55 = .ok (.iload_n 1, 1) := by decide +kernel
theorem dX10_knownOf_56 : decode cX10_knownOf 56 = .ok (.iaload, 1) := by decide +kernel
theorem dX10_knownOf_57 : decode cX10_knownOf 57 = .ok (.iconst 1, 1) := by decide +kernel
theorem dX10_knownOf_58 : decode cX10_knownOf 58 = .ok (.iadd, 1) := by decide +kernel
theorem dX10_knownOf_59 : decode cX10_knownOf 59 = .ok (.goto 4, 3) := by decide +kernel
theorem dX10_knownOf_62 : decode cX10_knownOf 62 = .ok (.iconst (-1), 1) := by decide +kernel
theorem dX10_knownOf_63 : decode cX10_knownOf 63 = .ok (.ireturn, 1) := by decide +kernel
theorem dX10_known_0 : decode cX10_known 0 = .ok (.aload_n 0, 1) := by decide +kernel
theorem dX10_known_1 : decode cX10_known 1 = .ok (.iload_n 1, 1) := by decide +kernel
theorem dX10_known_2 : decode cX10_known 2 = .ok (.invokevirtual 155, 3) := by decide +kernel
theorem dX10_known_5 : decode cX10_known 5 = .ok (.ifCond .eq 20, 3) := by decide +kernel
theorem dX10_known_8 : decode cX10_known 8 = .ok (.aload_n 0, 1) := by decide +kernel
theorem dX10_known_9 : decode cX10_known 9 = .ok (.iload_n 2, 1) := by decide +kernel
theorem dX10_known_10 : decode cX10_known 10 = .ok (.invokevirtual 122, 3) := by decide +kernel
theorem dX10_known_13 : decode cX10_known 13 = .ok (.ifCond .eq 12, 3) := by decide +kernel
theorem dX10_known_16 : decode cX10_known 16 = .ok (.aload_n 0, 1) := by decide +kernel
theorem dX10_known_17 : decode cX10_known 17 = .ok (.iload_n 1, 1) := by decide +kernel
theorem dX10_known_18 : decode cX10_known 18 = .ok (.iload_n 2, 1) := by decide +kernel
theorem dX10_known_19 : decode cX10_known 19 = .ok (.invokevirtual 292, 3) := by decide +kernel
theorem dX10_known_22 : decode cX10_known 22 = .ok (.goto 9, 3) := by decide +kernel
theorem dX10_known_25 : decode cX10_known 25 = .ok (.aload_n 0, 1) := by decide +kernel
theorem dX10_known_26 : decode cX10_known 26 = .ok (.bipush (-2), 2) := by decide +kernel
theorem dX10_known_28 : decode cX10_known 28 = .ok (.invokevirtual 107, 3) := by decide +kernel
theorem dX10_known_31 : decode cX10_known 31 = .ok (.ireturn, 1) := by decide +kernel
theorem dX10_behindOf_0 : decode cX10_behindOf 0 = .ok (.aload_n 0, 1) := by decide +kernel
theorem dX10_behindOf_1 : decode cX10_behindOf 1 = .ok (.iload_n 1, 1) := by decide +kernel
theorem dX10_behindOf_2 : decode cX10_behindOf 2 = .ok (.iload_n 2, 1) := by decide +kernel
theorem dX10_behindOf_3 : decode cX10_behindOf 3 = .ok (.invokevirtual 292, 3) := by decide +kernel
theorem dX10_behindOf_6 : decode cX10_behindOf 6 = .ok (.istore_n 3, 1) := by decide +kernel
theorem dX10_behindOf_7 : decode cX10_behindOf 7 = .ok (.iload_n 3, 1) := by decide +kernel
theorem dX10_behindOf_8 : decode cX10_behindOf 8 = .ok (.iconst (-1), 1) := by decide +kernel
theorem dX10_behindOf_9 : decode cX10_behindOf 9 = .ok (.if_icmp .ne 14, 3) := by decide +kernel
theorem dX10_behindOf_12 : decode cX10_behindOf 12 = .ok (.aload_n 0, 1) := by decide +kernel
theorem dX10_behindOf_13 : decode cX10_behindOf 13 = .ok (.getfield 42, 3) := by decide +kernel
theorem dX10_behindOf_16 : decode cX10_behindOf 16 = .ok (.iload_n 1, 1) := by decide +kernel
theorem dX10_behindOf_17 : decode cX10_behindOf 17 = .ok (.iaload, 1) := by decide +kernel
theorem dX10_behindOf_18 : decode cX10_behindOf 18 = .ok (.iconst 2, 1) := by decide +kernel
theorem dX10_behindOf_19 : decode cX10_behindOf 19 = .ok (.iadd, 1) := by decide +kernel
theorem dX10_behindOf_20 : decode cX10_behindOf 20 = .ok (.goto 4, 3) := by decide +kernel
theorem dX10_behindOf_23 : decode cX10_behindOf 23 = .ok (.iload_n 3, 1) := by decide +kernel
theorem dX10_behindOf_24 : decode cX10_behindOf 24 = .ok (.ireturn, 1) := by decide +kernel
theorem dX10_earFor_0 : decode cX10_earFor 0 = .ok (.aload_n 0, 1) := by decide +kernel
theorem dX10_earFor_1 : decode cX10_earFor 1 = .ok (.iload_n 1, 1) := by decide +kernel
theorem dX10_earFor_2 : decode cX10_earFor 2 = .ok (.invokevirtual 155, 3) := by decide +kernel
theorem dX10_earFor_5 : decode cX10_earFor 5 = .ok (.ifCond .ne 10, 3) := by decide +kernel
theorem dX10_earFor_8 : decode cX10_earFor 8 = .ok (.aload_n 0, 1) := by decide +kernel
theorem dX10_earFor_9 : decode cX10_earFor 9 = .ok (.bipush (-2), 2) := by decide +kernel
theorem dX10_earFor_11 : decode cX10_earFor 11 = .ok (.invokevirtual 107, 3) := by decide +kernel
theorem dX10_earFor_14 : decode cX10_earFor 14 = .ok (.ireturn, 1) := by decide +kernel
theorem dX10_earFor_15 : decode cX10_earFor 15 = .ok (.aload_n 0, 1) := by decide +kernel
theorem dX10_earFor_16 : decode cX10_earFor 16 = .ok (.getfield 95, 3) := by decide +kernel
theorem dX10_earFor_19 : decode cX10_earFor 19 = .ok (.ifCond .ne 10, 3) := by decide +kernel
theorem dX10_earFor_22 : decode cX10_earFor 22 = .ok (.aload_n 0, 1) := by decide +kernel
theorem dX10_earFor_23 : decode cX10_earFor 23 = .ok (.bipush (-5), 2) := by decide +kernel
theorem dX10_earFor_25 : decode cX10_earFor 25 = .ok (.invokevirtual 107, 3) := by decide +kernel
theorem dX10_earFor_28 : decode cX10_earFor 28 = .ok (.ireturn, 1) := by decide +kernel
theorem dX10_earFor_29 : decode cX10_earFor 29 = .ok (.iconst 0, 1) := by decide +kernel
theorem dX10_earFor_30 : decode cX10_earFor 30 = .ok (.istore_n 2, 1) := by decide +kernel
theorem dX10_earFor_31 : decode cX10_earFor 31 = .ok (.iconst 1, 1) := by decide +kernel
theorem dX10_earFor_32 : decode cX10_earFor 32 = .ok (.istore_n 3, 1) := by decide +kernel
theorem dX10_earFor_33 : decode cX10_earFor 33 = .ok (.iload_n 3, 1) := by decide +kernel
theorem dX10_earFor_34 : decode cX10_earFor 34 = .ok (.aload_n 0, 1) := by decide +kernel
theorem dX10_earFor_35 : decode cX10_earFor 35 = .ok (.getfield 95, 3) := by decide +kernel
theorem dX10_earFor_38 : decode cX10_earFor 38 = .ok (.if_icmp .ge 30, 3) := by decide +kernel
theorem dX10_earFor_41 : decode cX10_earFor 41 = .ok (.aload_n 0, 1) := by decide +kernel
theorem dX10_earFor_42 : decode cX10_earFor 42 = .ok (.iload_n 1, 1) := by decide +kernel
theorem dX10_earFor_43 : decode cX10_earFor 43 = .ok (.iload_n 3, 1) := by decide +kernel
theorem dX10_earFor_44 : decode cX10_earFor 44 = .ok (.invokevirtual 295, 3) := by decide +kernel
theorem dX10_earFor_47 : decode cX10_earFor 47 = .ok (.aload_n 0, 1) := by decide +kernel
theorem dX10_earFor_48 : decode cX10_earFor 48 = .ok (.iload_n 1, 1) := by decide +kernel
theorem dX10_earFor_49 : decode cX10_earFor 49 = .ok (.iload_n 2, 1) := by decide +kernel
theorem dX10_earFor_50 : decode cX10_earFor 50 = .ok (.invokevirtual 295, 3) := by decide +kernel
theorem dX10_earFor_53 : decode cX10_earFor 53 = .ok (.if_icmp .ge 7, 3) := by decide +kernel
theorem dX10_earFor_56 : decode cX10_earFor 56 = .ok (.iload_n 3, 1) := by decide +kernel
theorem dX10_earFor_57 : decode cX10_earFor 57 = .ok (.goto 4, 3) := by decide +kernel
theorem dX10_earFor_60 : decode cX10_earFor 60 = .ok (.iload_n 2, 1) := by decide +kernel
theorem dX10_earFor_61 : decode cX10_earFor 61 = .ok (.istore_n 2, 1) := by decide +kernel
theorem dX10_earFor_62 : decode cX10_earFor 62 = .ok (.iinc 3 1, 3) := by decide +kernel
theorem dX10_earFor_65 : decode cX10_earFor 65 = .ok (.goto (-32), 3) := by decide +kernel
theorem dX10_earFor_68 : decode cX10_earFor 68 = .ok (.iload_n 2, 1) := by decide +kernel
theorem dX10_earFor_69 : decode cX10_earFor 69 = .ok (.ireturn, 1) := by decide +kernel
theorem dX10_uses_0 : decode cX10_uses 0 = .ok (.iconst 0, 1) := by decide +kernel
theorem dX10_uses_1 : decode cX10_uses 1 = .ok (.istore_n 1, 1) := by decide +kernel
theorem dX10_uses_2 : decode cX10_uses 2 = .ok (.iconst 0, 1) := by decide +kernel
theorem dX10_uses_3 : decode cX10_uses 3 = .ok (.istore_n 2, 1) := by decide +kernel
theorem dX10_uses_4 : decode cX10_uses 4 = .ok (.iload_n 2, 1) := by decide +kernel
theorem dX10_uses_5 : decode cX10_uses 5 = .ok (.aload_n 0, 1) := by decide +kernel
theorem dX10_uses_6 : decode cX10_uses 6 = .ok (.getfield 88, 3) := by decide +kernel
theorem dX10_uses_9 : decode cX10_uses 9 = .ok (.if_icmp .ge 18, 3) := by decide +kernel
theorem dX10_uses_12 : decode cX10_uses 12 = .ok (.iload_n 1, 1) := by decide +kernel
theorem dX10_uses_13 : decode cX10_uses 13 = .ok (.aload_n 0, 1) := by decide +kernel
theorem dX10_uses_14 : decode cX10_uses 14 = .ok (.getfield 45, 3) := by decide +kernel
theorem dX10_uses_17 : decode cX10_uses 17 = .ok (.iload_n 2, 1) := by decide +kernel
theorem dX10_uses_18 : decode cX10_uses 18 = .ok (.iaload, 1) := by decide +kernel
theorem dX10_uses_19 : decode cX10_uses 19 = .ok (.iadd, 1) := by decide +kernel
theorem dX10_uses_20 : decode cX10_uses 20 = .ok (.istore_n 1, 1) := by decide +kernel
theorem dX10_uses_21 : decode cX10_uses 21 = .ok (.iinc 2 1, 3) := by decide +kernel
theorem dX10_uses_24 : decode cX10_uses 24 = .ok (.goto (-20), 3) := by decide +kernel
theorem dX10_uses_27 : decode cX10_uses 27 = .ok (.iload_n 1, 1) := by decide +kernel
theorem dX10_uses_28 : decode cX10_uses 28 = .ok (.ireturn, 1) := by decide +kernel
theorem dX10_mean_0 : decode cX10_mean 0 = .ok (.aload_n 0, 1) := by decide +kernel
theorem dX10_mean_1 : decode cX10_mean 1 = .ok (.iload_n 1, 1) := by decide +kernel
theorem dX10_mean_2 : decode cX10_mean 2 = .ok (.invokevirtual 122, 3) := by decide +kernel
theorem dX10_mean_5 : decode cX10_mean 5 = .ok (.ifCond .ne 10, 3) := by decide +kernel
theorem dX10_mean_8 : decode cX10_mean 8 = .ok (.aload_n 0, 1) := by decide +kernel
theorem dX10_mean_9 : decode cX10_mean 9 = .ok (.bipush (-2), 2) := by decide +kernel
theorem dX10_mean_11 : decode cX10_mean 11 = .ok (.invokevirtual 107, 3) := by decide +kernel
theorem dX10_mean_14 : decode cX10_mean 14 = .ok (.ireturn, 1) := by decide +kernel
theorem dX10_mean_15 : decode cX10_mean 15 = .ok (.aload_n 0, 1) := by decide +kernel
theorem dX10_mean_16 : decode cX10_mean 16 = .ok (.getfield 88, 3) := by decide +kernel
theorem dX10_mean_19 : decode cX10_mean 19 = .ok (.ifCond .ne 10, 3) := by decide +kernel
theorem dX10_mean_22 : decode cX10_mean 22 = .ok (.aload_n 0, 1) := by decide +kernel
theorem dX10_mean_23 : decode cX10_mean 23 = .ok (.bipush (-5), 2) := by decide +kernel
theorem dX10_mean_25 : decode cX10_mean 25 = .ok (.invokevirtual 107, 3) := by decide +kernel
theorem dX10_mean_28 : decode cX10_mean 28 = .ok (.ireturn, 1) := by decide +kernel
theorem dX10_mean_29 : decode cX10_mean 29 = .ok (.lconst 0, 1) := by decide +kernel
theorem dX10_mean_30 : decode cX10_mean 30 = .ok (.lstore_n 2, 1) := by decide +kernel
theorem dX10_mean_31 : decode cX10_mean 31 = .ok (.iconst 0, 1) := by decide +kernel
theorem dX10_mean_32 : decode cX10_mean 32 = .ok (.istore 4, 2) := by decide +kernel
theorem dX10_mean_34 : decode cX10_mean 34 = .ok (.iload 4, 2) := by decide +kernel
theorem dX10_mean_36 : decode cX10_mean 36 = .ok (.aload_n 0, 1) := by decide +kernel
theorem dX10_mean_37 : decode cX10_mean 37 = .ok (.getfield 88, 3) := by decide +kernel
theorem dX10_mean_40 : decode cX10_mean 40 = .ok (.if_icmp .ge 28, 3) := by decide +kernel
theorem dX10_mean_43 : decode cX10_mean 43 = .ok (.lload_n 2, 1) := by decide +kernel
theorem dX10_mean_44 : decode cX10_mean 44 = .ok (.aload_n 0, 1) := by decide +kernel
theorem dX10_mean_45 : decode cX10_mean 45 = .ok (.getfield 45, 3) := by decide +kernel
theorem dX10_mean_48 : decode cX10_mean 48 = .ok (.iload 4, 2) := by decide +kernel
theorem dX10_mean_50 : decode cX10_mean 50 = .ok (.iaload, 1) := by decide +kernel
theorem dX10_mean_51 : decode cX10_mean 51 = .ok (.aload_n 0, 1) := by decide +kernel
theorem dX10_mean_52 : decode cX10_mean 52 = .ok (.iload 4, 2) := by decide +kernel
theorem dX10_mean_54 : decode cX10_mean 54 = .ok (.iload_n 1, 1) := by decide +kernel
theorem dX10_mean_55 : decode cX10_mean 55 = .ok (.invokevirtual 295, 3) := by decide +kernel
theorem dX10_mean_58 : decode cX10_mean 58 = .ok (.imul, 1) := by decide +kernel
theorem dX10_mean_59 : decode cX10_mean 59 = .ok (.i2l, 1) := by decide +kernel
theorem dX10_mean_60 : decode cX10_mean 60 = .ok (.ladd, 1) := by decide +kernel
theorem dX10_mean_61 : decode cX10_mean 61 = .ok (.lstore_n 2, 1) := by decide +kernel
theorem dX10_mean_62 : decode cX10_mean 62 = .ok (.iinc 4 1, 3) := by decide +kernel
theorem dX10_mean_65 : decode cX10_mean 65 = .ok (.goto (-31), 3) := by decide +kernel
theorem dX10_mean_68 : decode cX10_mean 68 = .ok (.ldc2_w 158, 3) := by decide +kernel
theorem dX10_mean_71 : decode cX10_mean 71 = .ok (.lload_n 2, 1) := by decide +kernel
theorem dX10_mean_72 : decode cX10_mean 72 = .ok (.lmul, 1) := by decide +kernel
theorem dX10_mean_73 : decode cX10_mean 73 = .ok (.aload_n 0, 1) := by decide +kernel
theorem dX10_mean_74 : decode cX10_mean 74 = .ok (.invokevirtual 298, 3) := by decide +kernel
theorem dX10_mean_77 : decode cX10_mean 77 = .ok (.i2l, 1) := by decide +kernel
theorem dX10_mean_78 : decode cX10_mean 78 = .ok (.ldiv, 1) := by decide +kernel
theorem dX10_mean_79 : decode cX10_mean 79 = .ok (.l2i, 1) := by decide +kernel
theorem dX10_mean_80 : decode cX10_mean 80 = .ok (.ireturn, 1) := by decide +kernel
theorem dX10_riskOf_0 : decode cX10_riskOf 0 = .ok (.aload_n 0, 1) := by decide +kernel
theorem dX10_riskOf_1 : decode cX10_riskOf 1 = .ok (.iload_n 1, 1) := by decide +kernel
theorem dX10_riskOf_2 : decode cX10_riskOf 2 = .ok (.iload_n 2, 1) := by decide +kernel
theorem dX10_riskOf_3 : decode cX10_riskOf 3 = .ok (.aload_n 0, 1) := by decide +kernel
theorem dX10_riskOf_4 : decode cX10_riskOf 4 = .ok (.getfield 42, 3) := by decide +kernel
theorem dX10_riskOf_7 : decode cX10_riskOf 7 = .ok (.iload_n 1, 1) := by decide +kernel
theorem dX10_riskOf_8 : decode cX10_riskOf 8 = .ok (.iaload, 1) := by decide +kernel
theorem dX10_riskOf_9 : decode cX10_riskOf 9 = .ok (.iconst 1, 1) := by decide +kernel
theorem dX10_riskOf_10 : decode cX10_riskOf 10 = .ok (.invokevirtual 285, 3) := by decide +kernel
theorem dX10_riskOf_13 : decode cX10_riskOf 13 = .ok (.iconst 0, 1) := by decide +kernel
theorem dX10_riskOf_14 : decode cX10_riskOf 14 = .ok (.istore_n 3, 1) := by decide +kernel
theorem dX10_riskOf_15 : decode cX10_riskOf 15 = .ok (.iconst 0, 1) := by decide +kernel
theorem dX10_riskOf_16 : decode cX10_riskOf 16 = .ok (.istore 4, 2) := by decide +kernel
theorem dX10_riskOf_18 : decode cX10_riskOf 18 = .ok (.iconst 0, 1) := by decide +kernel
theorem dX10_riskOf_19 : decode cX10_riskOf 19 = .ok (.istore 5, 2) := by decide +kernel
theorem dX10_riskOf_21 : decode cX10_riskOf 21 = .ok (.iload 5, 2) := by decide +kernel
theorem dX10_riskOf_23 : decode cX10_riskOf 23 = .ok (.aload_n 0, 1) := by decide +kernel
theorem dX10_riskOf_24 : decode cX10_riskOf 24 = .ok (.getfield 88, 3) := by decide +kernel
theorem dX10_riskOf_27 : decode cX10_riskOf 27 = .ok (.if_icmp .ge 59, 3) := by decide +kernel
theorem dX10_riskOf_30 : decode cX10_riskOf 30 = .ok (.aload_n 0, 1) := by decide +kernel
theorem dX10_riskOf_31 : decode cX10_riskOf 31 = .ok (.iload 5, 2) := by decide +kernel
theorem dX10_riskOf_33 : decode cX10_riskOf 33 = .ok (.iload_n 2, 1) := by decide +kernel
theorem dX10_riskOf_34 : decode cX10_riskOf 34 = .ok (.invokevirtual 265, 3) := by decide +kernel
theorem dX10_riskOf_37 : decode cX10_riskOf 37 = .ok (.ifCond .eq 43, 3) := by decide +kernel
theorem dX10_riskOf_40 : decode cX10_riskOf 40 = .ok (.iload_n 3, 1) := by decide +kernel
theorem dX10_riskOf_41 : decode cX10_riskOf 41 = .ok (.aload_n 0, 1) := by decide +kernel
theorem dX10_riskOf_42 : decode cX10_riskOf 42 = .ok (.getfield 45, 3) := by decide +kernel
theorem dX10_riskOf_45 : decode cX10_riskOf 45 = .ok (.iload 5, 2) := by decide +kernel
theorem dX10_riskOf_47 : decode cX10_riskOf 47 = .ok (.iaload, 1) := by decide +kernel
theorem dX10_riskOf_48 : decode cX10_riskOf 48 = .ok (.iadd, 1) := by decide +kernel
theorem dX10_riskOf_49 : decode cX10_riskOf 49 = .ok (.istore_n 3, 1) := by decide +kernel
theorem dX10_riskOf_50 : decode cX10_riskOf 50 = .ok (.iload 4, 2) := by decide +kernel
theorem dX10_riskOf_52 : decode cX10_riskOf 52 = .ok (.iload 5, 2) := by decide +kernel
theorem dX10_riskOf_54 : decode cX10_riskOf 54 = .ok (.iload_n 1, 1) := by decide +kernel
theorem dX10_riskOf_55 : decode cX10_riskOf 55 = .ok (.if_icmp .ne 7, 3) := by decide +kernel
theorem dX10_riskOf_58 : decode cX10_riskOf 58 = .ok (.iconst 0, 1) := by decide +kernel
theorem dX10_riskOf_59 : decode cX10_riskOf 59 = .ok (.goto 18, 3) := by decide +kernel
theorem dX10_riskOf_62 : decode cX10_riskOf 62 = .ok (.aload_n 0, 1) := by decide +kernel
theorem dX10_riskOf_63 : decode cX10_riskOf 63 = .ok (.getfield 45, 3) := by decide +kernel
theorem dX10_riskOf_66 : decode cX10_riskOf 66 = .ok (.iload 5, 2) := by decide +kernel
theorem dX10_riskOf_68 : decode cX10_riskOf 68 = .ok (.iaload, 1) := by decide +kernel
theorem dX10_riskOf_69 : decode cX10_riskOf 69 = .ok (.aload_n 0, 1) := by decide +kernel
theorem dX10_riskOf_70 : decode cX10_riskOf 70 = .ok (.getfield 48, 3) := by decide +kernel
theorem dX10_riskOf_73 : decode cX10_riskOf 73 = .ok (.iload 5, 2) := by decide +kernel
theorem dX10_riskOf_75 : decode cX10_riskOf 75 = .ok (.iaload, 1) := by decide +kernel
theorem dX10_riskOf_76 : decode cX10_riskOf 76 = .ok (.imul, 1) := by decide +kernel
theorem dX10_riskOf_77 : decode cX10_riskOf 77 = .ok (.iadd, 1) := by decide +kernel
theorem dX10_riskOf_78 : decode cX10_riskOf 78 = .ok (.istore 4, 2) := by decide +kernel
theorem dX10_riskOf_80 : decode cX10_riskOf 80 = .ok (.iinc 5 1, 3) := by decide +kernel
theorem dX10_riskOf_83 : decode cX10_riskOf 83 = .ok (.goto (-62), 3) := by decide +kernel
theorem dX10_riskOf_86 : decode cX10_riskOf 86 = .ok (.iload_n 3, 1) := by decide +kernel
theorem dX10_riskOf_87 : decode cX10_riskOf 87 = .ok (.ifCond .ne 7, 3) := by decide +kernel
theorem dX10_riskOf_90 : decode cX10_riskOf 90 = .ok (.iconst 0, 1) := by decide +kernel
theorem dX10_riskOf_91 : decode cX10_riskOf 91 = .ok (.goto 7, 3) := by decide +kernel
theorem dX10_riskOf_94 : decode cX10_riskOf 94 = .ok (.iload 4, 2) := by decide +kernel
theorem dX10_riskOf_96 : decode cX10_riskOf 96 = .ok (.iload_n 3, 1) := by decide +kernel
theorem dX10_riskOf_97 : decode cX10_riskOf 97 = .ok (.idiv, 1) := by decide +kernel
theorem dX10_riskOf_98 : decode cX10_riskOf 98 = .ok (.ireturn, 1) := by decide +kernel
theorem dX10_risk_0 : decode cX10_risk 0 = .ok (.aload_n 0, 1) := by decide +kernel
theorem dX10_risk_1 : decode cX10_risk 1 = .ok (.iload_n 1, 1) := by decide +kernel
theorem dX10_risk_2 : decode cX10_risk 2 = .ok (.invokevirtual 155, 3) := by decide +kernel
theorem dX10_risk_5 : decode cX10_risk 5 = .ok (.ifCond .eq 20, 3) := by decide +kernel
theorem dX10_risk_8 : decode cX10_risk 8 = .ok (.aload_n 0, 1) := by decide +kernel
theorem dX10_risk_9 : decode cX10_risk 9 = .ok (.iload_n 2, 1) := by decide +kernel
theorem dX10_risk_10 : decode cX10_risk 10 = .ok (.invokevirtual 122, 3) := by decide +kernel
theorem dX10_risk_13 : decode cX10_risk 13 = .ok (.ifCond .eq 12, 3) := by decide +kernel
theorem dX10_risk_16 : decode cX10_risk 16 = .ok (.aload_n 0, 1) := by decide +kernel
theorem dX10_risk_17 : decode cX10_risk 17 = .ok (.iload_n 1, 1) := by decide +kernel
theorem dX10_risk_18 : decode cX10_risk 18 = .ok (.iload_n 2, 1) := by decide +kernel
theorem dX10_risk_19 : decode cX10_risk 19 = .ok (.invokevirtual 301, 3) := by decide +kernel
theorem dX10_risk_22 : decode cX10_risk 22 = .ok (.goto 9, 3) := by decide +kernel
theorem dX10_risk_25 : decode cX10_risk 25 = .ok (.aload_n 0, 1) := by decide +kernel
theorem dX10_risk_26 : decode cX10_risk 26 = .ok (.bipush (-2), 2) := by decide +kernel
theorem dX10_risk_28 : decode cX10_risk 28 = .ok (.invokevirtual 107, 3) := by decide +kernel
theorem dX10_risk_31 : decode cX10_risk 31 = .ok (.ireturn, 1) := by decide +kernel
theorem dX10_worst_0 : decode cX10_worst 0 = .ok (.aload_n 0, 1) := by decide +kernel
theorem dX10_worst_1 : decode cX10_worst 1 = .ok (.iload_n 1, 1) := by decide +kernel
theorem dX10_worst_2 : decode cX10_worst 2 = .ok (.invokevirtual 122, 3) := by decide +kernel
theorem dX10_worst_5 : decode cX10_worst 5 = .ok (.ifCond .ne 10, 3) := by decide +kernel
theorem dX10_worst_8 : decode cX10_worst 8 = .ok (.aload_n 0, 1) := by decide +kernel
theorem dX10_worst_9 : decode cX10_worst 9 = .ok (.bipush (-2), 2) := by decide +kernel
theorem dX10_worst_11 : decode cX10_worst 11 = .ok (.invokevirtual 107, 3) := by decide +kernel
theorem dX10_worst_14 : decode cX10_worst 14 = .ok (.ireturn, 1) := by decide +kernel
theorem dX10_worst_15 : decode cX10_worst 15 = .ok (.aload_n 0, 1) := by decide +kernel
theorem dX10_worst_16 : decode cX10_worst 16 = .ok (.getfield 88, 3) := by decide +kernel
theorem dX10_worst_19 : decode cX10_worst 19 = .ok (.ifCond .ne 10, 3) := by decide +kernel
theorem dX10_worst_22 : decode cX10_worst 22 = .ok (.aload_n 0, 1) := by decide +kernel
theorem dX10_worst_23 : decode cX10_worst 23 = .ok (.bipush (-5), 2) := by decide +kernel
theorem dX10_worst_25 : decode cX10_worst 25 = .ok (.invokevirtual 107, 3) := by decide +kernel
theorem dX10_worst_28 : decode cX10_worst 28 = .ok (.ireturn, 1) := by decide +kernel
theorem dX10_worst_29 : decode cX10_worst 29 = .ok (.iconst 0, 1) := by decide +kernel
theorem dX10_worst_30 : decode cX10_worst 30 = .ok (.istore_n 2, 1) := by decide +kernel
theorem dX10_worst_31 : decode cX10_worst 31 = .ok (.iconst 1, 1) := by decide +kernel
theorem dX10_worst_32 : decode cX10_worst 32 = .ok (.istore_n 3, 1) := by decide +kernel
theorem dX10_worst_33 : decode cX10_worst 33 = .ok (.iload_n 3, 1) := by decide +kernel
theorem dX10_worst_34 : decode cX10_worst 34 = .ok (.aload_n 0, 1) := by decide +kernel
theorem dX10_worst_35 : decode cX10_worst 35 = .ok (.getfield 88, 3) := by decide +kernel
theorem dX10_worst_38 : decode cX10_worst 38 = .ok (.if_icmp .ge 30, 3) := by decide +kernel
theorem dX10_worst_41 : decode cX10_worst 41 = .ok (.aload_n 0, 1) := by decide +kernel
theorem dX10_worst_42 : decode cX10_worst 42 = .ok (.iload_n 3, 1) := by decide +kernel
theorem dX10_worst_43 : decode cX10_worst 43 = .ok (.iload_n 1, 1) := by decide +kernel
theorem dX10_worst_44 : decode cX10_worst 44 = .ok (.invokevirtual 301, 3) := by decide +kernel
theorem dX10_worst_47 : decode cX10_worst 47 = .ok (.aload_n 0, 1) := by decide +kernel
theorem dX10_worst_48 : decode cX10_worst 48 = .ok (.iload_n 2, 1) := by decide +kernel
theorem dX10_worst_49 : decode cX10_worst 49 = .ok (.iload_n 1, 1) := by decide +kernel
theorem dX10_worst_50 : decode cX10_worst 50 = .ok (.invokevirtual 301, 3) := by decide +kernel
theorem dX10_worst_53 : decode cX10_worst 53 = .ok (.if_icmp .le 7, 3) := by decide +kernel
theorem dX10_worst_56 : decode cX10_worst 56 = .ok (.iload_n 3, 1) := by decide +kernel
theorem dX10_worst_57 : decode cX10_worst 57 = .ok (.goto 4, 3) := by decide +kernel
theorem dX10_worst_60 : decode cX10_worst 60 = .ok (.iload_n 2, 1) := by decide +kernel
theorem dX10_worst_61 : decode cX10_worst 61 = .ok (.istore_n 2, 1) := by decide +kernel
theorem dX10_worst_62 : decode cX10_worst 62 = .ok (.iinc 3 1, 3) := by decide +kernel
theorem dX10_worst_65 : decode cX10_worst 65 = .ok (.goto (-32), 3) := by decide +kernel
theorem dX10_worst_68 : decode cX10_worst 68 = .ok (.iload_n 2, 1) := by decide +kernel
theorem dX10_worst_69 : decode cX10_worst 69 = .ok (.ireturn, 1) := by decide +kernel
theorem dX10_alikeFirst_0 : decode cX10_alikeFirst 0 = .ok (.aload_n 0, 1) := by decide +kernel
theorem dX10_alikeFirst_1 : decode cX10_alikeFirst 1 = .ok (.iload_n 1, 1) := by decide +kernel
theorem dX10_alikeFirst_2 : decode cX10_alikeFirst 2 = .ok (.invokevirtual 155, 3) := by decide +kernel
theorem dX10_alikeFirst_5 : decode cX10_alikeFirst 5 = .ok (.ifCond .eq 11, 3) := by decide +kernel
theorem dX10_alikeFirst_8 : decode cX10_alikeFirst 8 = .ok (.aload_n 0, 1) := by decide +kernel
theorem dX10_alikeFirst_9 : decode cX10_alikeFirst 9 = .ok (.iload_n 2, 1) := by decide +kernel
theorem dX10_alikeFirst_10 : decode cX10_alikeFirst 10 = .ok (.invokevirtual 155, 3) := by decide +kernel
theorem dX10_alikeFirst_13 : decode cX10_alikeFirst 13 = .ok (.ifCond .ne 10, 3) := by decide +kernel
theorem dX10_alikeFirst_16 : decode cX10_alikeFirst 16 = .ok (.aload_n 0, 1) := by decide +kernel
theorem dX10_alikeFirst_17 : decode cX10_alikeFirst 17 = .ok (.bipush (-2), 2) := by decide +kernel
theorem dX10_alikeFirst_19 : decode cX10_alikeFirst 19 = .ok (.invokevirtual 107, 3) := by decide +kernel
theorem dX10_alikeFirst_22 : decode cX10_alikeFirst 22 = .ok (.ireturn, 1) := by decide +kernel
theorem dX10_alikeFirst_23 : decode cX10_alikeFirst 23 = .ok (.iconst 0, 1) := by decide +kernel
theorem dX10_alikeFirst_24 : decode cX10_alikeFirst 24 = .ok (.istore_n 3, 1) := by decide +kernel
theorem dX10_alikeFirst_25 : decode cX10_alikeFirst 25 = .ok (.iload_n 3, 1) := by decide +kernel
theorem dX10_alikeFirst_26 : decode cX10_alikeFirst 26 = .ok (.aload_n 0, 1) := by decide +kernel
theorem dX10_alikeFirst_27 : decode cX10_alikeFirst 27 = .ok (.getfield 42, 3) := by decide +kernel
theorem dX10_alikeFirst_30 : decode cX10_alikeFirst 30 = .ok (.iload_n 1, 1) := by decide +kernel
theorem dX10_alikeFirst_31 : decode cX10_alikeFirst 31 = .ok (.iaload, 1) := by decide +kernel
theorem dX10_alikeFirst_32 : decode cX10_alikeFirst 32 = .ok (.if_icmp .ge 38, 3) := by decide +kernel
theorem dX10_alikeFirst_35 : decode cX10_alikeFirst 35 = .ok (.iload_n 3, 1) := by decide +kernel
theorem dX10_alikeFirst_36 : decode cX10_alikeFirst 36 = .ok (.aload_n 0, 1) := by decide +kernel
theorem dX10_alikeFirst_37 : decode cX10_alikeFirst 37 = .ok (.getfield 42, 3) := by decide +kernel
theorem dX10_alikeFirst_40 : decode cX10_alikeFirst 40 = .ok (.iload_n 2, 1) := by decide +kernel
theorem dX10_alikeFirst_41 : decode cX10_alikeFirst 41 = .ok (.iaload, 1) := by decide +kernel
theorem dX10_alikeFirst_42 : decode cX10_alikeFirst 42 = .ok (.if_icmp .ge 28, 3) := by decide +kernel
theorem dX10_alikeFirst_45 : decode cX10_alikeFirst 45 = .ok (.aload_n 0, 1) := by decide +kernel
theorem dX10_alikeFirst_46 : decode cX10_alikeFirst 46 = .ok (.getfield 39, 3) := by decide +kernel
theorem dX10_alikeFirst_49 : decode cX10_alikeFirst 49 = .ok (.iload_n 1, 1) := by decide +kernel
theorem dX10_alikeFirst_50 : decode cX10_alikeFirst 50 = .ok (.aaload, 1) := by decide +kernel
theorem dX10_alikeFirst_51 : decode cX10_alikeFirst 51 = .ok (.iload_n 3, 1) := by decide +kernel
theorem dX10_alikeFirst_52 : decode cX10_alikeFirst 52 = .ok (.iaload, 1) := by decide +kernel
theorem dX10_alikeFirst_53 : decode cX10_alikeFirst 53 = .ok (.aload_n 0, 1) := by decide +kernel
theorem dX10_alikeFirst_54 : decode cX10_alikeFirst 54 = .ok (.getfield 39, 3) := by decide +kernel
theorem dX10_alikeFirst_57 : decode cX10_alikeFirst 57 = .ok (.iload_n 2, 1) := by decide +kernel
theorem dX10_alikeFirst_58 : decode cX10_alikeFirst 58 = .ok (.aaload, 1) := by decide +kernel
theorem dX10_alikeFirst_59 : decode cX10_alikeFirst 59 = .ok (.iload_n 3, 1) := by decide +kernel
theorem dX10_alikeFirst_60 : decode cX10_alikeFirst 60 = .ok (.iaload, 1) := by decide +kernel
theorem dX10_alikeFirst_61 : decode cX10_alikeFirst 61 = .ok (.if_icmp .ne 9, 3) := by decide +kernel
theorem dX10_alikeFirst_64 : decode cX10_alikeFirst 64 = .ok (.iinc 3 1, 3) := by decide +kernel
theorem dX10_alikeFirst_67 : decode cX10_alikeFirst 67 = .ok (.goto (-42), 3) := by decide +kernel
theorem dX10_alikeFirst_70 : decode cX10_alikeFirst 70 = .ok (.iload_n 3, 1) := by decide +kernel
theorem dX10_alikeFirst_71 : decode cX10_alikeFirst 71 = .ok (.ireturn, 1) := by decide +kernel
theorem dX10_notes_0 : decode cX10_notes 0 = .ok (.iload_n 1, 1) := by decide +kernel
theorem dX10_notes_1 : decode cX10_notes 1 = .ok (.i2l, 1) := by decide +kernel
theorem dX10_notes_2 : decode cX10_notes 2 = .ok (.lconst 0, 1) := by decide +kernel
theorem dX10_notes_3 : decode cX10_notes 3 = .ok (.ldc2_w 103, 3) := by decide +kernel
theorem dX10_notes_6 : decode cX10_notes 6 = .ok (.invokestatic 91, 3) := by decide +kernel
theorem dX10_notes_9 : decode cX10_notes 9 = .ok (.ifCond .ne 10, 3) := by decide +kernel
theorem dX10_notes_12 : decode cX10_notes 12 = .ok (.aload_n 0, 1) := by decide +kernel
theorem dX10_notes_13 : decode cX10_notes 13 = .ok (.bipush (-2), 2) := by decide +kernel
theorem dX10_notes_15 : decode cX10_notes 15 = .ok (.invokevirtual 107, 3) := by decide +kernel
theorem dX10_notes_18 : decode cX10_notes 18 = .ok (.ireturn, 1) := by decide +kernel
theorem dX10_notes_19 : decode cX10_notes 19 = .ok (.iconst 0, 1) := by decide +kernel
theorem dX10_notes_20 : decode cX10_notes 20 = .ok (.istore_n 2, 1) := by decide +kernel
theorem dX10_notes_21 : decode cX10_notes 21 = .ok (.iconst 0, 1) := by decide +kernel
theorem dX10_notes_22 : decode cX10_notes 22 = .ok (.istore_n 3, 1) := by decide +kernel
theorem dX10_notes_23 : decode cX10_notes 23 = .ok (.iload_n 3, 1) := by decide +kernel
theorem dX10_notes_24 : decode cX10_notes 24 = .ok (.aload_n 0, 1) := by decide +kernel
theorem dX10_notes_25 : decode cX10_notes 25 = .ok (.getfield 88, 3) := by decide +kernel
theorem dX10_notes_28 : decode cX10_notes 28 = .ok (.if_icmp .ge 50, 3) := by decide +kernel
theorem dX10_notes_31 : decode cX10_notes 31 = .ok (.iconst 0, 1) := by decide +kernel
theorem dX10_notes_32 : decode cX10_notes 32 = .ok (.istore 4, 2) := by decide +kernel
theorem dX10_notes_34 : decode cX10_notes 34 = .ok (.iload 4, 2) := by decide +kernel
theorem dX10_notes_36 : decode cX10_notes 36 = .ok (.aload_n 0, 1) := by decide +kernel
theorem dX10_notes_37 : decode cX10_notes 37 = .ok (.getfield 42, 3) := by decide +kernel
theorem dX10_notes_40 : decode cX10_notes 40 = .ok (.iload_n 3, 1) := by decide +kernel
theorem dX10_notes_41 : decode cX10_notes 41 = .ok (.iaload, 1) := by decide +kernel
theorem dX10_notes_42 : decode cX10_notes 42 = .ok (.if_icmp .ge 30, 3) := by decide +kernel
theorem dX10_notes_45 : decode cX10_notes 45 = .ok (.iload_n 2, 1) := by decide +kernel
theorem dX10_notes_46 : decode cX10_notes 46 = .ok (.aload_n 0, 1) := by decide +kernel
theorem dX10_notes_47 : decode cX10_notes 47 = .ok (.getfield 39, 3) := by decide +kernel
theorem dX10_notes_50 : decode cX10_notes 50 = .ok (.iload_n 3, 1) := by decide +kernel
theorem dX10_notes_51 : decode cX10_notes 51 = .ok (.aaload, 1) := by decide +kernel
theorem dX10_notes_52 : decode cX10_notes 52 = .ok (.iload 4, 2) := by decide +kernel
theorem dX10_notes_54 : decode cX10_notes 54 = .ok (.iaload, 1) := by decide +kernel
theorem dX10_notes_55 : decode cX10_notes 55 = .ok (.iload_n 1, 1) := by decide +kernel
theorem dX10_notes_56 : decode cX10_notes 56 = .ok (.if_icmp .ne 7, 3) := by decide +kernel
theorem dX10_notes_59 : decode cX10_notes 59 = .ok (.iconst 1, 1) := by decide +kernel
theorem dX10_notes_60 : decode cX10_notes 60 = .ok (.goto 4, 3) := by decide +kernel
theorem dX10_notes_63 : decode cX10_notes 63 = .ok (.iconst 0, 1) := by decide +kernel
theorem dX10_notes_64 : decode cX10_notes 64 = .ok (.iadd, 1) := by decide +kernel
theorem dX10_notes_65 : decode cX10_notes 65 = .ok (.istore_n 2, 1) := by decide +kernel
theorem dX10_notes_66 : decode cX10_notes 66 = .ok (.iinc 4 1, 3) := by decide +kernel
theorem dX10_notes_69 : decode cX10_notes 69 = .ok (.goto (-35), 3) := by decide +kernel
theorem dX10_notes_72 : decode cX10_notes 72 = .ok (.iinc 3 1, 3) := by decide +kernel
theorem dX10_notes_75 : decode cX10_notes 75 = .ok (.goto (-52), 3) := by decide +kernel
theorem dX10_notes_78 : decode cX10_notes 78 = .ok (.iload_n 2, 1) := by decide +kernel
theorem dX10_notes_79 : decode cX10_notes 79 = .ok (.ireturn, 1) := by decide +kernel
theorem dX10_twins_0 : decode cX10_twins 0 = .ok (.iconst 0, 1) := by decide +kernel
theorem dX10_twins_1 : decode cX10_twins 1 = .ok (.istore_n 1, 1) := by decide +kernel
theorem dX10_twins_2 : decode cX10_twins 2 = .ok (.iconst 0, 1) := by decide +kernel
theorem dX10_twins_3 : decode cX10_twins 3 = .ok (.istore_n 2, 1) := by decide +kernel
theorem dX10_twins_4 : decode cX10_twins 4 = .ok (.iload_n 2, 1) := by decide +kernel
theorem dX10_twins_5 : decode cX10_twins 5 = .ok (.aload_n 0, 1) := by decide +kernel
theorem dX10_twins_6 : decode cX10_twins 6 = .ok (.getfield 88, 3) := by decide +kernel
theorem dX10_twins_9 : decode cX10_twins 9 = .ok (.if_icmp .ge 65, 3) := by decide +kernel
theorem dX10_twins_12 : decode cX10_twins 12 = .ok (.iconst 0, 1) := by decide +kernel
theorem dX10_twins_13 : decode cX10_twins 13 = .ok (.istore_n 3, 1) := by decide +kernel
theorem dX10_twins_14 : decode cX10_twins 14 = .ok (.iconst 0, 1) := by decide +kernel
theorem dX10_twins_15 : decode cX10_twins 15 = .ok (.istore 4, 2) := by decide +kernel
theorem dX10_twins_17 : decode cX10_twins 17 = .ok (.iload 4, 2) := by decide +kernel
theorem dX10_twins_19 : decode cX10_twins 19 = .ok (.aload_n 0, 1) := by decide +kernel
theorem dX10_twins_20 : decode cX10_twins 20 = .ok (.getfield 88, 3) := by decide +kernel
theorem dX10_twins_23 : decode cX10_twins 23 = .ok (.if_icmp .ge 33, 3) := by decide +kernel
theorem dX10_twins_26 : decode cX10_twins 26 = .ok (.iload_n 3, 1) := by decide +kernel
theorem dX10_twins_27 : decode cX10_twins 27 = .ok (.iload 4, 2) := by decide +kernel
theorem dX10_twins_29 : decode cX10_twins 29 = .ok (.iload_n 2, 1) := by decide +kernel
theorem dX10_twins_30 : decode cX10_twins 30 = .ok (.if_icmp .eq 17, 3) := by decide +kernel
theorem dX10_twins_33 : decode cX10_twins 33 = .ok (.aload_n 0, 1) := by decide +kernel
theorem dX10_twins_34 : decode cX10_twins 34 = .ok (.iload_n 2, 1) := by decide +kernel
theorem dX10_twins_35 : decode cX10_twins 35 = .ok (.iload 4, 2) := by decide +kernel
theorem dX10_twins_37 : decode cX10_twins 37 = .ok (.invokevirtual 282, 3) := by decide +kernel
theorem dX10_twins_40 : decode cX10_twins 40 = .ok (.ifCond .ne 7, 3) := by decide +kernel
theorem dX10_twins_43 : decode cX10_twins 43 = .ok (.iconst 1, 1) := by decide +kernel
theorem dX10_twins_44 : decode cX10_twins 44 = .ok (.goto 4, 3) := by decide +kernel
theorem dX10_twins_47 : decode cX10_twins 47 = .ok (.iconst 0, 1) := by decide +kernel
theorem dX10_twins_48 : decode cX10_twins 48 = .ok (.ior, 1) := by decide +kernel
theorem dX10_twins_49 : decode cX10_twins 49 = .ok (.istore_n 3, 1) := by decide +kernel
theorem dX10_twins_50 : decode cX10_twins 50 = .ok (.iinc 4 1, 3) := by decide +kernel
theorem dX10_twins_53 : decode cX10_twins 53 = .ok (.goto (-36), 3) := by decide +kernel
theorem dX10_twins_56 : decode cX10_twins 56 = .ok (.iload_n 1, 1) := by decide +kernel
theorem dX10_twins_57 : decode cX10_twins 57 = .ok (.iload_n 3, 1) := by decide +kernel
theorem dX10_twins_58 : decode cX10_twins 58 = .ok (.ifCond .eq 7, 3) := by decide +kernel
theorem dX10_twins_61 : decode cX10_twins 61 = .ok (.iconst 1, 1) := by decide +kernel
theorem dX10_twins_62 : decode cX10_twins 62 = .ok (.goto 4, 3) := by decide +kernel
theorem dX10_twins_65 : decode cX10_twins 65 = .ok (.iconst 0, 1) := by decide +kernel
theorem dX10_twins_66 : decode cX10_twins 66 = .ok (.iadd, 1) := by decide +kernel
theorem dX10_twins_67 : decode cX10_twins 67 = .ok (.istore_n 1, 1) := by decide +kernel
theorem dX10_twins_68 : decode cX10_twins 68 = .ok (.iinc 2 1, 3) := by decide +kernel
theorem dX10_twins_71 : decode cX10_twins 71 = .ok (.goto (-67), 3) := by decide +kernel
theorem dX10_twins_74 : decode cX10_twins 74 = .ok (.iload_n 1, 1) := by decide +kernel
theorem dX10_twins_75 : decode cX10_twins 75 = .ok (.ireturn, 1) := by decide +kernel
theorem dX10_farFrom_0 : decode cX10_farFrom 0 = .ok (.aload_n 0, 1) := by decide +kernel
theorem dX10_farFrom_1 : decode cX10_farFrom 1 = .ok (.getfield 42, 3) := by decide +kernel
theorem dX10_farFrom_4 : decode cX10_farFrom 4 = .ok (.iload_n 1, 1) := by decide +kernel
theorem dX10_farFrom_5 : decode cX10_farFrom 5 = .ok (.iaload, 1) := by decide +kernel
theorem dX10_farFrom_6 : decode cX10_farFrom 6 = .ok (.iload_n 2, 1) := by decide +kernel
theorem dX10_farFrom_7 : decode cX10_farFrom 7 = .ok (.if_icmp .le 12, 3) := by decide +kernel
theorem dX10_farFrom_10 : decode cX10_farFrom 10 = .ok (.aload_n 0, 1) := by decide +kernel
theorem dX10_farFrom_11 : decode cX10_farFrom 11 = .ok (.getfield 42, 3) := by decide +kernel
theorem dX10_farFrom_14 : decode cX10_farFrom 14 = .ok (.iload_n 1, 1) := by decide +kernel
theorem dX10_farFrom_15 : decode cX10_farFrom 15 = .ok (.iaload, 1) := by decide +kernel
theorem dX10_farFrom_16 : decode cX10_farFrom 16 = .ok (.goto 4, 3) := by decide +kernel
theorem dX10_farFrom_19 : decode cX10_farFrom 19 = .ok (.iload_n 2, 1) := by decide +kernel
theorem dX10_farFrom_20 : decode cX10_farFrom 20 = .ok (.istore_n 3, 1) := by decide +kernel
theorem dX10_farFrom_21 : decode cX10_farFrom 21 = .ok (.iconst 0, 1) := by decide +kernel
theorem dX10_farFrom_22 : decode cX10_farFrom 22 = .ok (.istore 4, 2) := by decide +kernel
theorem dX10_farFrom_24 : decode cX10_farFrom 24 = .ok (.iconst 0, 1) := by decide +kernel
theorem dX10_farFrom_25 : decode cX10_farFrom 25 = .ok (.istore 5, 2) := by decide +kernel
theorem dX10_farFrom_27 : decode cX10_farFrom 27 = .ok (.iload 5, 2) := by decide +kernel
theorem dX10_farFrom_29 : decode cX10_farFrom 29 = .ok (.iload_n 3, 1) := by decide +kernel
theorem dX10_farFrom_30 : decode cX10_farFrom 30 = .ok (.if_icmp .ge 55, 3) := by decide +kernel
theorem dX10_farFrom_33 : decode cX10_farFrom 33 = .ok (.iload 4, 2) := by decide +kernel
theorem dX10_farFrom_35 : decode cX10_farFrom 35 = .ok (.iload 5, 2) := by decide +kernel
theorem dX10_farFrom_37 : decode cX10_farFrom 37 = .ok (.aload_n 0, 1) := by decide +kernel
theorem dX10_farFrom_38 : decode cX10_farFrom 38 = .ok (.getfield 42, 3) := by decide +kernel
theorem dX10_farFrom_41 : decode cX10_farFrom 41 = .ok (.iload_n 1, 1) := by decide +kernel
theorem dX10_farFrom_42 : decode cX10_farFrom 42 = .ok (.iaload, 1) := by decide +kernel
theorem dX10_farFrom_43 : decode cX10_farFrom 43 = .ok (.if_icmp .ge 28, 3) := by decide +kernel
theorem dX10_farFrom_46 : decode cX10_farFrom 46 = .ok (.iload 5, 2) := by decide +kernel
theorem dX10_farFrom_48 : decode cX10_farFrom 48 = .ok (.iload_n 2, 1) := by decide +kernel
theorem dX10_farFrom_49 : decode cX10_farFrom 49 = .ok (.if_icmp .ge 22, 3) := by decide +kernel
theorem dX10_farFrom_52 : decode cX10_farFrom 52 = .ok (.aload_n 0, 1) := by decide +kernel
theorem dX10_farFrom_53 : decode cX10_farFrom 53 = .ok (.getfield 39, 3) := by decide +kernel
theorem dX10_farFrom_56 : decode cX10_farFrom 56 = .ok (.iload_n 1, 1) := by decide +kernel
theorem dX10_farFrom_57 : decode cX10_farFrom 57 = .ok (.aaload, 1) := by decide +kernel
theorem dX10_farFrom_58 : decode cX10_farFrom 58 = .ok (.iload 5, 2) := by decide +kernel
theorem dX10_farFrom_60 : decode cX10_farFrom 60 = .ok (.iaload, 1) := by decide +kernel
theorem dX10_farFrom_61 : decode cX10_farFrom 61 = .ok (.aload_n 0, 1) := by decide +kernel
theorem dX10_farFrom_62 : decode cX10_farFrom 62 = .ok (.getfield 79, 3) := by decide +kernel
theorem dX10_farFrom_65 : decode cX10_farFrom 65 = .ok (.iload 5, 2) := by decide +kernel
theorem dX10_farFrom_67 : decode cX10_farFrom 67 = .ok (.iaload, 1) := by decide +kernel
theorem dX10_farFrom_68 : decode cX10_farFrom 68 = .ok (.if_icmp .eq 7, 3) := by decide +kernel
theorem dX10_farFrom_71 : decode cX10_farFrom 71 = .ok (.iconst 1, 1) := by decide +kernel
theorem dX10_farFrom_72 : decode cX10_farFrom 72 = .ok (.goto 4, 3) := by decide +kernel
theorem dX10_farFrom_75 : decode cX10_farFrom 75 = .ok (.iconst 0, 1) := by decide +kernel
theorem dX10_farFrom_76 : decode cX10_farFrom 76 = .ok (.iadd, 1) := by decide +kernel
theorem dX10_farFrom_77 : decode cX10_farFrom 77 = .ok (.istore 4, 2) := by decide +kernel
theorem dX10_farFrom_79 : decode cX10_farFrom 79 = .ok (.iinc 5 1, 3) := by decide +kernel
theorem dX10_farFrom_82 : decode cX10_farFrom 82 = .ok (.goto (-55), 3) := by decide +kernel
theorem dX10_farFrom_85 : decode cX10_farFrom 85 = .ok (.iload 4, 2) := by decide +kernel
theorem dX10_farFrom_87 : decode cX10_farFrom 87 = .ok (.ireturn, 1) := by decide +kernel
theorem dX10_isFar_0 : decode cX10_isFar 0 = .ok (.iconst 0, 1) := by decide +kernel
theorem dX10_isFar_1 : decode cX10_isFar 1 = .ok (.istore 4, 2) := by decide +kernel
theorem dX10_isFar_3 : decode cX10_isFar 3 = .ok (.iload 4, 2) := by decide +kernel
theorem dX10_isFar_5 : decode cX10_isFar 5 = .ok (.aload_n 0, 1) := by decide +kernel
theorem dX10_isFar_6 : decode cX10_isFar 6 = .ok (.getfield 88, 3) := by decide +kernel
theorem dX10_isFar_9 : decode cX10_isFar 9 = .ok (.if_icmp .ge 28, 3) := by decide +kernel
theorem dX10_isFar_12 : decode cX10_isFar 12 = .ok (.iload 4, 2) := by decide +kernel
theorem dX10_isFar_14 : decode cX10_isFar 14 = .ok (.iload_n 3, 1) := by decide +kernel
theorem dX10_isFar_15 : decode cX10_isFar 15 = .ok (.if_icmp .eq 16, 3) := by decide +kernel
theorem dX10_isFar_18 : decode cX10_isFar 18 = .ok (.aload_n 0, 1) := by decide +kernel
theorem dX10_isFar_19 : decode cX10_isFar 19 = .ok (.iload 4, 2) := by decide +kernel
theorem dX10_isFar_21 : decode cX10_isFar 21 = .ok (.iload_n 1, 1) := by decide +kernel
theorem dX10_isFar_22 : decode cX10_isFar 22 = .ok (.invokevirtual 304, 3) := by decide +kernel
theorem dX10_isFar_25 : decode cX10_isFar 25 = .ok (.iload_n 2, 1) := by decide +kernel
theorem dX10_isFar_26 : decode cX10_isFar 26 = .ok (.if_icmp .ge 5, 3) := by decide +kernel
theorem dX10_isFar_29 : decode cX10_isFar 29 = .ok (.iconst 0, 1) := by decide +kernel
theorem dX10_isFar_30 : decode cX10_isFar 30 = .ok (.ireturn, 1) := by decide +kernel
theorem dX10_isFar_31 : decode cX10_isFar 31 = .ok (.iinc 4 1, 3) := by decide +kernel
theorem dX10_isFar_34 : decode cX10_isFar 34 = .ok (.goto (-31), 3) := by decide +kernel
theorem dX10_isFar_37 : decode cX10_isFar 37 = .ok (.iconst 1, 1) := by decide +kernel
theorem dX10_isFar_38 : decode cX10_isFar 38 = .ok (.ireturn, 1) := by decide +kernel
theorem dX10_becomes_0 : decode cX10_becomes 0 = .ok (.iload_n 1, 1) := by decide +kernel
theorem dX10_becomes_1 : decode cX10_becomes 1 = .ok (.istore_n 3, 1) := by decide +kernel
theorem dX10_becomes_2 : decode cX10_becomes 2 = .ok (.iconst 1, 1) := by decide +kernel
theorem dX10_becomes_3 : decode cX10_becomes 3 = .ok (.istore 4, 2) := by decide +kernel
theorem dX10_becomes_5 : decode cX10_becomes 5 = .ok (.iload_n 2, 1) := by decide +kernel
theorem dX10_becomes_6 : decode cX10_becomes 6 = .ok (.iconst 1, 1) := by decide +kernel
theorem dX10_becomes_7 : decode cX10_becomes 7 = .ok (.isub, 1) := by decide +kernel
theorem dX10_becomes_8 : decode cX10_becomes 8 = .ok (.istore 5, 2) := by decide +kernel
theorem dX10_becomes_10 : decode cX10_becomes 10 = .ok (.iload 5, 2) := by decide +kernel
theorem dX10_becomes_12 : decode cX10_becomes 12 = .ok (.ifCond .lt 29, 3) := by decide +kernel
theorem dX10_becomes_15 : decode cX10_becomes 15 = .ok (.aload_n 0, 1) := by decide +kernel
theorem dX10_becomes_16 : decode cX10_becomes 16 = .ok (.getfield 79, 3) := by decide +kernel
theorem dX10_becomes_19 : decode cX10_becomes 19 = .ok (.iload 5, 2) := by decide +kernel
theorem dX10_becomes_21 : decode cX10_becomes 21 = .ok (.iload_n 3, 1) := by decide +kernel
theorem dX10_becomes_22 : decode cX10_becomes 22 = .ok (.iconst 5, 1) := by decide +kernel
theorem dX10_becomes_23 : decode cX10_becomes 23 = .ok (.irem, 1) := by decide +kernel
theorem dX10_becomes_24 : decode cX10_becomes 24 = .ok (.iastore, 1) := by decide +kernel
theorem dX10_becomes_25 : decode cX10_becomes 25 = .ok (.iload_n 3, 1) := by decide +kernel
theorem dX10_becomes_26 : decode cX10_becomes 26 = .ok (.iconst 5, 1) := by decide +kernel
theorem dX10_becomes_27 : decode cX10_becomes 27 = .ok (.idiv, 1) := by decide +kernel
theorem dX10_becomes_28 : decode cX10_becomes 28 = .ok (.istore_n 3, 1) := by decide +kernel
theorem dX10_becomes_29 : decode cX10_becomes 29 = .ok (.iload 4, 2) := by decide +kernel
theorem dX10_becomes_31 : decode cX10_becomes 31 = .ok (.iconst 5, 1) := by decide +kernel
theorem dX10_becomes_32 : decode cX10_becomes 32 = .ok (.imul, 1) := by decide +kernel
theorem dX10_becomes_33 : decode cX10_becomes 33 = .ok (.istore 4, 2) := by decide +kernel
theorem dX10_becomes_35 : decode cX10_becomes 35 = .ok (.iinc 5 (-1), 3) := by decide +kernel
theorem dX10_becomes_38 : decode cX10_becomes 38 = .ok (.goto (-28), 3) := by decide +kernel
theorem dX10_becomes_41 : decode cX10_becomes 41 = .ok (.iload 4, 2) := by decide +kernel
theorem dX10_becomes_43 : decode cX10_becomes 43 = .ok (.ireturn, 1) := by decide +kernel
theorem dX10_change_0 : decode cX10_change 0 = .ok (.aload_n 0, 1) := by decide +kernel
theorem dX10_change_1 : decode cX10_change 1 = .ok (.iload_n 1, 1) := by decide +kernel
theorem dX10_change_2 : decode cX10_change 2 = .ok (.invokevirtual 155, 3) := by decide +kernel
theorem dX10_change_5 : decode cX10_change 5 = .ok (.ifCond .eq 15, 3) := by decide +kernel
theorem dX10_change_8 : decode cX10_change 8 = .ok (.iload_n 2, 1) := by decide +kernel
theorem dX10_change_9 : decode cX10_change 9 = .ok (.i2l, 1) := by decide +kernel
theorem dX10_change_10 : decode cX10_change 10 = .ok (.lconst 0, 1) := by decide +kernel
theorem dX10_change_11 : decode cX10_change 11 = .ok (.ldc2_w 139, 3) := by decide +kernel
theorem dX10_change_14 : decode cX10_change 14 = .ok (.invokestatic 91, 3) := by decide +kernel
theorem dX10_change_17 : decode cX10_change 17 = .ok (.ifCond .ne 10, 3) := by decide +kernel
theorem dX10_change_20 : decode cX10_change 20 = .ok (.aload_n 0, 1) := by decide +kernel
theorem dX10_change_21 : decode cX10_change 21 = .ok (.bipush (-2), 2) := by decide +kernel
theorem dX10_change_23 : decode cX10_change 23 = .ok (.invokevirtual 107, 3) := by decide +kernel
theorem dX10_change_26 : decode cX10_change 26 = .ok (.ireturn, 1) := by decide +kernel
theorem dX10_change_27 : decode cX10_change 27 = .ok (.aload_n 0, 1) := by decide +kernel
theorem dX10_change_28 : decode cX10_change 28 = .ok (.getfield 42, 3) := by decide +kernel
theorem dX10_change_31 : decode cX10_change 31 = .ok (.iload_n 1, 1) := by decide +kernel
theorem dX10_change_32 : decode cX10_change 32 = .ok (.iaload, 1) := by decide +kernel
theorem dX10_change_33 : decode cX10_change 33 = .ok (.iconst 5, 1) := by decide +kernel
theorem dX10_change_34 : decode cX10_change 34 = .ok (.if_icmp .le 10, 3) := by decide +kernel
theorem dX10_change_37 : decode cX10_change 37 = .ok (.aload_n 0, 1) := by decide +kernel
theorem dX10_change_38 : decode cX10_change 38 = .ok (.bipush (-5), 2) := by decide +kernel
theorem dX10_change_40 : decode cX10_change 40 = .ok (.invokevirtual 107, 3) := by decide +kernel
theorem dX10_change_43 : decode cX10_change 43 = .ok (.ireturn, 1) := by decide +kernel
theorem dX10_change_44 : decode cX10_change 44 = .ok (.aload_n 0, 1) := by decide +kernel
theorem dX10_change_45 : decode cX10_change 45 = .ok (.getfield 42, 3) := by decide +kernel
theorem dX10_change_48 : decode cX10_change 48 = .ok (.iload_n 1, 1) := by decide +kernel
theorem dX10_change_49 : decode cX10_change 49 = .ok (.iaload, 1) := by decide +kernel
theorem dX10_change_50 : decode cX10_change 50 = .ok (.istore_n 3, 1) := by decide +kernel
theorem dX10_change_51 : decode cX10_change 51 = .ok (.aload_n 0, 1) := by decide +kernel
theorem dX10_change_52 : decode cX10_change 52 = .ok (.iconst 0, 1) := by decide +kernel
theorem dX10_change_53 : decode cX10_change 53 = .ok (.iload_n 3, 1) := by decide +kernel
theorem dX10_change_54 : decode cX10_change 54 = .ok (.invokevirtual 307, 3) := by decide +kernel
theorem dX10_change_57 : decode cX10_change 57 = .ok (.istore 4, 2) := by decide +kernel
theorem dX10_change_59 : decode cX10_change 59 = .ok (.iconst (-1), 1) := by decide +kernel
theorem dX10_change_60 : decode cX10_change 60 = .ok (.istore 5, 2) := by decide +kernel
theorem dX10_change_62 : decode cX10_change 62 = .ok (.iconst 0, 1) := by decide +kernel
theorem dX10_change_63 : decode cX10_change 63 = .ok (.istore 6, 2) := by decide +kernel
theorem dX10_change_65 : decode cX10_change 65 = .ok (.iload 6, 2) := by decide +kernel
theorem dX10_change_67 : decode cX10_change 67 = .ok (.iload 4, 2) := by decide +kernel
theorem dX10_change_69 : decode cX10_change 69 = .ok (.if_icmp .ge 91, 3) := by decide +kernel
theorem dX10_change_72 : decode cX10_change 72 = .ok (.aload_n 0, 1) := by decide +kernel
theorem dX10_change_73 : decode cX10_change 73 = .ok (.iload 6, 2) := by decide +kernel
theorem dX10_change_75 : decode cX10_change 75 = .ok (.iload_n 3, 1) := by decide +kernel
theorem dX10_change_76 : decode cX10_change 76 = .ok (.invokevirtual 307, 3) := by decide +kernel
theorem dX10_change_79 : decode cX10_change 79 = .ok (.pop, 1) := by decide +kernel
theorem dX10_change_80 : decode cX10_change 80 = .ok (.iconst 0, 1) := by decide +kernel
theorem dX10_change_81 : decode cX10_change 81 = .ok (.istore 7, 2) := by decide +kernel
theorem dX10_change_83 : decode cX10_change 83 = .ok (.iconst 0, 1) := by decide +kernel
theorem dX10_change_84 : decode cX10_change 84 = .ok (.istore 8, 2) := by decide +kernel
theorem dX10_change_86 : decode cX10_change 86 = .ok (.iload 8, 2) := by decide +kernel
theorem dX10_change_88 : decode cX10_change 88 = .ok (.iload_n 3, 1) := by decide +kernel
theorem dX10_change_89 : decode cX10_change 89 = .ok (.if_icmp .ge 38, 3) := by decide +kernel
theorem dX10_change_92 : decode cX10_change 92 = .ok (.iload 7, 2) := by decide +kernel
theorem dX10_change_94 : decode cX10_change 94 = .ok (.aload_n 0, 1) := by decide +kernel
theorem dX10_change_95 : decode cX10_change 95 = .ok (.getfield 79, 3) := by decide +kernel
theorem dX10_change_98 : decode cX10_change 98 = .ok (.iload 8, 2) := by decide +kernel
theorem dX10_change_100 : decode cX10_change 100 = .ok (.iaload, 1) := by decide +kernel
theorem dX10_change_101 : decode cX10_change 101 = .ok (.aload_n 0, 1) := by decide +kernel
theorem dX10_change_102 : decode cX10_change 102 = .ok (.getfield 39, 3) := by decide +kernel
theorem dX10_change_105 : decode cX10_change 105 = .ok (.iload_n 1, 1) := by decide +kernel
theorem dX10_change_106 : decode cX10_change 106 = .ok (.aaload, 1) := by decide +kernel
theorem dX10_change_107 : decode cX10_change 107 = .ok (.iload 8, 2) := by decide +kernel
theorem dX10_change_109 : decode cX10_change 109 = .ok (.iaload, 1) := by decide +kernel
theorem dX10_change_110 : decode cX10_change 110 = .ok (.if_icmp .eq 7, 3) := by decide +kernel
theorem dX10_change_113 : decode cX10_change 113 = .ok (.iconst 1, 1) := by decide +kernel
theorem dX10_change_114 : decode cX10_change 114 = .ok (.goto 4, 3) := by decide +kernel
theorem dX10_change_117 : decode cX10_change 117 = .ok (.iconst 0, 1) := by decide +kernel
theorem dX10_change_118 : decode cX10_change 118 = .ok (.iadd, 1) := by decide +kernel
theorem dX10_change_119 : decode cX10_change 119 = .ok (.istore 7, 2) := by decide +kernel
theorem dX10_change_121 : decode cX10_change 121 = .ok (.iinc 8 1, 3) := by decide +kernel
theorem dX10_change_124 : decode cX10_change 124 = .ok (.goto (-38), 3) := by decide +kernel
theorem dX10_change_127 : decode cX10_change 127 = .ok (.iload 5, 2) := by decide +kernel
theorem dX10_change_129 : decode cX10_change 129 = .ok (.iconst (-1), 1) := by decide +kernel
theorem dX10_change_130 : decode cX10_change 130 = .ok (.if_icmp .eq 10, 3) := by decide +kernel
theorem dX10_change_133 : decode cX10_change 133 = .ok (.iload 7, 2) := by decide +kernel
theorem dX10_change_135 : decode cX10_change 135 = .ok (.iload 5, 2) := by decide +kernel
theorem dX10_change_137 : decode cX10_change 137 = .ok (.if_icmp .ge 17, 3) := by decide +kernel
theorem dX10_change_140 : decode cX10_change 140 = .ok (.aload_n 0, 1) := by decide +kernel
theorem dX10_change_141 : decode cX10_change 141 = .ok (.iload_n 3, 1) := by decide +kernel
theorem dX10_change_142 : decode cX10_change 142 = .ok (.iload_n 2, 1) := by decide +kernel
theorem dX10_change_143 : decode cX10_change 143 = .ok (.iload_n 1, 1) := by decide +kernel
theorem dX10_change_144 : decode cX10_change 144 = .ok (.invokevirtual 310, 3) := by decide +kernel
theorem dX10_change_147 : decode cX10_change 147 = .ok (.ifCond .eq 7, 3) := by decide +kernel
theorem dX10_change_150 : decode cX10_change 150 = .ok (.iload 7, 2) := by decide +kernel
theorem dX10_change_152 : decode cX10_change 152 = .ok (.istore 5, 2) := by decide +kernel
theorem dX10_change_154 : decode cX10_change 154 = .ok (.iinc 6 1, 3) := by decide +kernel
theorem dX10_change_157 : decode cX10_change 157 = .ok (.goto (-92), 3) := by decide +kernel
theorem dX10_change_160 : decode cX10_change 160 = .ok (.iload 5, 2) := by decide +kernel
theorem dX10_change_162 : decode cX10_change 162 = .ok (.ireturn, 1) := by decide +kernel
theorem dX10_alike_0 : decode cX10_alike 0 = .ok (.iload_n 1, 1) := by decide +kernel
theorem dX10_alike_1 : decode cX10_alike 1 = .ok (.i2l, 1) := by decide +kernel
theorem dX10_alike_2 : decode cX10_alike 2 = .ok (.lconst 0, 1) := by decide +kernel
theorem dX10_alike_3 : decode cX10_alike 3 = .ok (.lconst 1, 1) := by decide +kernel
theorem dX10_alike_4 : decode cX10_alike 4 = .ok (.invokestatic 91, 3) := by decide +kernel
theorem dX10_alike_7 : decode cX10_alike 7 = .ok (.ifCond .ne 10, 3) := by decide +kernel
theorem dX10_alike_10 : decode cX10_alike 10 = .ok (.aload_n 0, 1) := by decide +kernel
theorem dX10_alike_11 : decode cX10_alike 11 = .ok (.bipush (-2), 2) := by decide +kernel
theorem dX10_alike_13 : decode cX10_alike 13 = .ok (.invokevirtual 107, 3) := by decide +kernel
theorem dX10_alike_16 : decode cX10_alike 16 = .ok (.ireturn, 1) := by decide +kernel
theorem dX10_alike_17 : decode cX10_alike 17 = .ok (.aload_n 0, 1) := by decide +kernel
theorem dX10_alike_18 : decode cX10_alike 18 = .ok (.getfield 88, 3) := by decide +kernel
theorem dX10_alike_21 : decode cX10_alike 21 = .ok (.iconst 2, 1) := by decide +kernel
theorem dX10_alike_22 : decode cX10_alike 22 = .ok (.if_icmp .ge 10, 3) := by decide +kernel
theorem dX10_alike_25 : decode cX10_alike 25 = .ok (.aload_n 0, 1) := by decide +kernel
theorem dX10_alike_26 : decode cX10_alike 26 = .ok (.bipush (-5), 2) := by decide +kernel
theorem dX10_alike_28 : decode cX10_alike 28 = .ok (.invokevirtual 107, 3) := by decide +kernel
theorem dX10_alike_31 : decode cX10_alike 31 = .ok (.ireturn, 1) := by decide +kernel
theorem dX10_alike_32 : decode cX10_alike 32 = .ok (.iconst (-1), 1) := by decide +kernel
theorem dX10_alike_33 : decode cX10_alike 33 = .ok (.istore_n 2, 1) := by decide +kernel
theorem dX10_alike_34 : decode cX10_alike 34 = .ok (.iconst 0, 1) := by decide +kernel
theorem dX10_alike_35 : decode cX10_alike 35 = .ok (.istore_n 3, 1) := by decide +kernel
theorem dX10_alike_36 : decode cX10_alike 36 = .ok (.iconst 0, 1) := by decide +kernel
theorem dX10_alike_37 : decode cX10_alike 37 = .ok (.istore 4, 2) := by decide +kernel
theorem dX10_alike_39 : decode cX10_alike 39 = .ok (.iload 4, 2) := by decide +kernel
theorem dX10_alike_41 : decode cX10_alike 41 = .ok (.aload_n 0, 1) := by decide +kernel
theorem dX10_alike_42 : decode cX10_alike 42 = .ok (.getfield 88, 3) := by decide +kernel
theorem dX10_alike_45 : decode cX10_alike 45 = .ok (.if_icmp .ge 65, 3) := by decide +kernel
theorem dX10_alike_48 : decode cX10_alike 48 = .ok (.iload 4, 2) := by decide +kernel
theorem dX10_alike_50 : decode cX10_alike 50 = .ok (.iconst 1, 1) := by decide +kernel
theorem dX10_alike_51 : decode cX10_alike 51 = .ok (.iadd, 1) := by decide +kernel
theorem dX10_alike_52 : decode cX10_alike 52 = .ok (.istore 5, 2) := by decide +kernel
theorem dX10_alike_54 : decode cX10_alike 54 = .ok (.iload 5, 2) := by decide +kernel
theorem dX10_alike_56 : decode cX10_alike 56 = .ok (.aload_n 0, 1) := by decide +kernel
theorem dX10_alike_57 : decode cX10_alike 57 = .ok (.getfield 88, 3) := by decide +kernel
theorem dX10_alike_60 : decode cX10_alike 60 = .ok (.if_icmp .ge 44, 3) := by decide +kernel
theorem dX10_alike_63 : decode cX10_alike 63 = .ok (.iload_n 2, 1) := by decide +kernel
theorem dX10_alike_64 : decode cX10_alike 64 = .ok (.iconst (-1), 1) := by decide +kernel
theorem dX10_alike_65 : decode cX10_alike 65 = .ok (.if_icmp .eq 15, 3) := by decide +kernel
theorem dX10_alike_68 : decode cX10_alike 68 = .ok (.aload_n 0, 1) := by decide +kernel
theorem dX10_alike_69 : decode cX10_alike 69 = .ok (.iload 4, 2) := by decide +kernel
theorem dX10_alike_71 : decode cX10_alike 71 = .ok (.iload 5, 2) := by decide +kernel
theorem dX10_alike_73 : decode cX10_alike 73 = .ok (.invokevirtual 282, 3) := by decide +kernel
theorem dX10_alike_76 : decode cX10_alike 76 = .ok (.iload_n 3, 1) := by decide +kernel
theorem dX10_alike_77 : decode cX10_alike 77 = .ok (.if_icmp .ge 21, 3) := by decide +kernel
theorem dX10_alike_80 : decode cX10_alike 80 = .ok (.bipush 100, 2) := by decide +kernel
theorem dX10_alike_82 : decode cX10_alike 82 = .ok (.iload 4, 2) := by decide +kernel
theorem dX10_alike_84 : decode cX10_alike 84 = .ok (.imul, 1) := by decide +kernel
theorem dX10_alike_85 : decode cX10_alike 85 = .ok (.iload 5, 2) := by decide +kernel
theorem dX10_alike_87 : decode cX10_alike 87 = .ok (.iadd, 1) := by decide +kernel
theorem dX10_alike_88 : decode cX10_alike 88 = .ok (.istore_n 2, 1) := by decide +kernel
theorem dX10_alike_89 : decode cX10_alike 89 = .ok (.aload_n 0, 1) := by decide +kernel
theorem dX10_alike_90 : decode cX10_alike 90 = .ok (.iload 4, 2) := by decide +kernel
theorem dX10_alike_92 : decode cX10_alike 92 = .ok (.iload 5, 2) := by decide +kernel
theorem dX10_alike_94 : decode cX10_alike 94 = .ok (.invokevirtual 282, 3) := by decide +kernel
theorem dX10_alike_97 : decode cX10_alike 97 = .ok (.istore_n 3, 1) := by decide +kernel
theorem dX10_alike_98 : decode cX10_alike 98 = .ok (.iinc 5 1, 3) := by decide +kernel
theorem dX10_alike_101 : decode cX10_alike 101 = .ok (.goto (-47), 3) := by decide +kernel
theorem dX10_alike_104 : decode cX10_alike 104 = .ok (.iinc 4 1, 3) := by decide +kernel
theorem dX10_alike_107 : decode cX10_alike 107 = .ok (.goto (-68), 3) := by decide +kernel
theorem dX10_alike_110 : decode cX10_alike 110 = .ok (.iload_n 1, 1) := by decide +kernel
theorem dX10_alike_111 : decode cX10_alike 111 = .ok (.ifCond .ne 7, 3) := by decide +kernel
theorem dX10_alike_114 : decode cX10_alike 114 = .ok (.iload_n 2, 1) := by decide +kernel
theorem dX10_alike_115 : decode cX10_alike 115 = .ok (.goto 4, 3) := by decide +kernel
theorem dX10_alike_118 : decode cX10_alike 118 = .ok (.iload_n 3, 1) := by decide +kernel
theorem dX10_alike_119 : decode cX10_alike 119 = .ok (.ireturn, 1) := by decide +kernel
theorem dX10_mixed_0 : decode cX10_mixed 0 = .ok (.aload_n 0, 1) := by decide +kernel
theorem dX10_mixed_1 : decode cX10_mixed 1 = .ok (.iload_n 1, 1) := by decide +kernel
theorem dX10_mixed_2 : decode cX10_mixed 2 = .ok (.invokevirtual 122, 3) := by decide +kernel
theorem dX10_mixed_5 : decode cX10_mixed 5 = .ok (.ifCond .eq 13, 3) := by decide +kernel
theorem dX10_mixed_8 : decode cX10_mixed 8 = .ok (.iload_n 2, 1) := by decide +kernel
theorem dX10_mixed_9 : decode cX10_mixed 9 = .ok (.i2l, 1) := by decide +kernel
theorem dX10_mixed_10 : decode cX10_mixed 10 = .ok (.lconst 0, 1) := by decide +kernel
theorem dX10_mixed_11 : decode cX10_mixed 11 = .ok (.lconst 1, 1) := by decide +kernel
theorem dX10_mixed_12 : decode cX10_mixed 12 = .ok (.invokestatic 91, 3) := by decide +kernel
theorem dX10_mixed_15 : decode cX10_mixed 15 = .ok (.ifCond .ne 10, 3) := by decide +kernel
theorem dX10_mixed_18 : decode cX10_mixed 18 = .ok (.aload_n 0, 1) := by decide +kernel
theorem dX10_mixed_19 : decode cX10_mixed 19 = .ok (.bipush (-2), 2) := by decide +kernel
theorem dX10_mixed_21 : decode cX10_mixed 21 = .ok (.invokevirtual 107, 3) := by decide +kernel
theorem dX10_mixed_24 : decode cX10_mixed 24 = .ok (.ireturn, 1) := by decide +kernel
theorem dX10_mixed_25 : decode cX10_mixed 25 = .ok (.iconst 0, 1) := by decide +kernel
theorem dX10_mixed_26 : decode cX10_mixed 26 = .ok (.istore_n 3, 1) := by decide +kernel
theorem dX10_mixed_27 : decode cX10_mixed 27 = .ok (.iconst (-1), 1) := by decide +kernel
theorem dX10_mixed_28 : decode cX10_mixed 28 = .ok (.istore 4, 2) := by decide +kernel
theorem dX10_mixed_30 : decode cX10_mixed 30 = .ok (.iconst 0, 1) := by decide +kernel
theorem dX10_mixed_31 : decode cX10_mixed 31 = .ok (.istore 5, 2) := by decide +kernel
theorem dX10_mixed_33 : decode cX10_mixed 33 = .ok (.iload 5, 2) := by decide +kernel
theorem dX10_mixed_35 : decode cX10_mixed 35 = .ok (.aload_n 0, 1) := by decide +kernel
theorem dX10_mixed_36 : decode cX10_mixed 36 = .ok (.getfield 88, 3) := by decide +kernel
theorem dX10_mixed_39 : decode cX10_mixed 39 = .ok (.if_icmp .ge 79, 3) := by decide +kernel
theorem dX10_mixed_42 : decode cX10_mixed 42 = .ok (.aload_n 0, 1) := by decide +kernel
theorem dX10_mixed_43 : decode cX10_mixed 43 = .ok (.iload 5, 2) := by decide +kernel
theorem dX10_mixed_45 : decode cX10_mixed 45 = .ok (.iload_n 1, 1) := by decide +kernel
theorem dX10_mixed_46 : decode cX10_mixed 46 = .ok (.aload_n 0, 1) := by decide +kernel
theorem dX10_mixed_47 : decode cX10_mixed 47 = .ok (.getfield 42, 3) := by decide +kernel
theorem dX10_mixed_50 : decode cX10_mixed 50 = .ok (.iload 5, 2) := by decide +kernel
theorem dX10_mixed_52 : decode cX10_mixed 52 = .ok (.iaload, 1) := by decide +kernel
theorem dX10_mixed_53 : decode cX10_mixed 53 = .ok (.iconst 1, 1) := by decide +kernel
theorem dX10_mixed_54 : decode cX10_mixed 54 = .ok (.invokevirtual 285, 3) := by decide +kernel
theorem dX10_mixed_57 : decode cX10_mixed 57 = .ok (.iload 5, 2) := by decide +kernel
theorem dX10_mixed_59 : decode cX10_mixed 59 = .ok (.iconst 1, 1) := by decide +kernel
theorem dX10_mixed_60 : decode cX10_mixed 60 = .ok (.iadd, 1) := by decide +kernel
theorem dX10_mixed_61 : decode cX10_mixed 61 = .ok (.istore 6, 2) := by decide +kernel
theorem dX10_mixed_63 : decode cX10_mixed 63 = .ok (.iload 6, 2) := by decide +kernel
theorem dX10_mixed_65 : decode cX10_mixed 65 = .ok (.aload_n 0, 1) := by decide +kernel
theorem dX10_mixed_66 : decode cX10_mixed 66 = .ok (.getfield 88, 3) := by decide +kernel
theorem dX10_mixed_69 : decode cX10_mixed 69 = .ok (.if_icmp .ge 43, 3) := by decide +kernel
theorem dX10_mixed_72 : decode cX10_mixed 72 = .ok (.aload_n 0, 1) := by decide +kernel
theorem dX10_mixed_73 : decode cX10_mixed 73 = .ok (.iload 6, 2) := by decide +kernel
theorem dX10_mixed_75 : decode cX10_mixed 75 = .ok (.iload_n 1, 1) := by decide +kernel
theorem dX10_mixed_76 : decode cX10_mixed 76 = .ok (.invokevirtual 265, 3) := by decide +kernel
theorem dX10_mixed_79 : decode cX10_mixed 79 = .ok (.ifCond .eq 27, 3) := by decide +kernel
theorem dX10_mixed_82 : decode cX10_mixed 82 = .ok (.iload 4, 2) := by decide +kernel
theorem dX10_mixed_84 : decode cX10_mixed 84 = .ok (.iconst (-1), 1) := by decide +kernel
theorem dX10_mixed_85 : decode cX10_mixed 85 = .ok (.if_icmp .ne 14, 3) := by decide +kernel
theorem dX10_mixed_88 : decode cX10_mixed 88 = .ok (.bipush 100, 2) := by decide +kernel
theorem dX10_mixed_90 : decode cX10_mixed 90 = .ok (.iload 5, 2) := by decide +kernel
theorem dX10_mixed_92 : decode cX10_mixed 92 = .ok (.imul, 1) := by decide +kernel
theorem dX10_mixed_93 : decode cX10_mixed 93 = .ok (.iload 6, 2) := by decide +kernel
theorem dX10_mixed_95 : decode cX10_mixed 95 = .ok (.iadd, 1) := by decide +kernel
theorem dX10_mixed_96 : decode cX10_mixed 96 = .ok (.goto 5, 3) := by decide +kernel
theorem dX10_mixed_99 : decode cX10_mixed 99 = .ok (.iload 4, 2) := by decide +kernel
theorem dX10_mixed_101 : decode cX10_mixed 101 = .ok (.istore 4, 2) := by decide +kernel
theorem dX10_mixed_103 : decode cX10_mixed 103 = .ok (.iinc 3 1, 3) := by decide +kernel
theorem dX10_mixed_106 : decode cX10_mixed 106 = .ok (.iinc 6 1, 3) := by decide +kernel
theorem dX10_mixed_109 : decode cX10_mixed 109 = .ok (.goto (-46), 3) := by decide +kernel
theorem dX10_mixed_112 : decode cX10_mixed 112 = .ok (.iinc 5 1, 3) := by decide +kernel
theorem dX10_mixed_115 : decode cX10_mixed 115 = .ok (.goto (-82), 3) := by decide +kernel
theorem dX10_mixed_118 : decode cX10_mixed 118 = .ok (.iload_n 2, 1) := by decide +kernel
theorem dX10_mixed_119 : decode cX10_mixed 119 = .ok (.ifCond .ne 7, 3) := by decide +kernel
theorem dX10_mixed_122 : decode cX10_mixed 122 = .ok (.iload_n 3, 1) := by decide +kernel
theorem dX10_mixed_123 : decode cX10_mixed 123 = .ok (.goto 5, 3) := by decide +kernel
theorem dX10_mixed_126 : decode cX10_mixed 126 = .ok (.iload 4, 2) := by decide +kernel
theorem dX10_mixed_128 : decode cX10_mixed 128 = .ok (.ireturn, 1) := by decide +kernel
theorem dX10_fresh__0 : decode cX10_fresh_ 0 = .ok (.iload_n 1, 1) := by decide +kernel
theorem dX10_fresh__1 : decode cX10_fresh_ 1 = .ok (.i2l, 1) := by decide +kernel
theorem dX10_fresh__2 : decode cX10_fresh_ 2 = .ok (.lconst 1, 1) := by decide +kernel
theorem dX10_fresh__3 : decode cX10_fresh_ 3 = .ok (.ldc2_w 126, 3) := by decide +kernel
theorem dX10_fresh__6 : decode cX10_fresh_ 6 = .ok (.invokestatic 91, 3) := by decide +kernel
theorem dX10_fresh__9 : decode cX10_fresh_ 9 = .ok (.ifCond .eq 15, 3) := by decide +kernel
theorem dX10_fresh__12 : decode cX10_fresh_ 12 = .ok (.iload_n 2, 1) := by decide +kernel
theorem dX10_fresh__13 : decode cX10_fresh_ 13 = .ok (.i2l, 1) := by decide +kernel
theorem dX10_fresh__14 : decode cX10_fresh_ 14 = .ok (.lconst 0, 1) := by decide +kernel
theorem dX10_fresh__15 : decode cX10_fresh_ 15 = .ok (.ldc2_w 139, 3) := by decide +kernel
theorem dX10_fresh__18 : decode cX10_fresh_ 18 = .ok (.invokestatic 91, 3) := by decide +kernel
theorem dX10_fresh__21 : decode cX10_fresh_ 21 = .ok (.ifCond .ne 10, 3) := by decide +kernel
theorem dX10_fresh__24 : decode cX10_fresh_ 24 = .ok (.aload_n 0, 1) := by decide +kernel
theorem dX10_fresh__25 : decode cX10_fresh_ 25 = .ok (.bipush (-2), 2) := by decide +kernel
theorem dX10_fresh__27 : decode cX10_fresh_ 27 = .ok (.invokevirtual 107, 3) := by decide +kernel
theorem dX10_fresh__30 : decode cX10_fresh_ 30 = .ok (.ireturn, 1) := by decide +kernel
theorem dX10_fresh__31 : decode cX10_fresh_ 31 = .ok (.aload_n 0, 1) := by decide +kernel
theorem dX10_fresh__32 : decode cX10_fresh_ 32 = .ok (.iconst 0, 1) := by decide +kernel
theorem dX10_fresh__33 : decode cX10_fresh_ 33 = .ok (.iload_n 1, 1) := by decide +kernel
theorem dX10_fresh__34 : decode cX10_fresh_ 34 = .ok (.invokevirtual 307, 3) := by decide +kernel
theorem dX10_fresh__37 : decode cX10_fresh_ 37 = .ok (.istore_n 3, 1) := by decide +kernel
theorem dX10_fresh__38 : decode cX10_fresh_ 38 = .ok (.iconst 0, 1) := by decide +kernel
theorem dX10_fresh__39 : decode cX10_fresh_ 39 = .ok (.istore 4, 2) := by decide +kernel
theorem dX10_fresh__41 : decode cX10_fresh_ 41 = .ok (.iload 4, 2) := by decide +kernel
theorem dX10_fresh__43 : decode cX10_fresh_ 43 = .ok (.iload_n 3, 1) := by decide +kernel
theorem dX10_fresh__44 : decode cX10_fresh_ 44 = .ok (.if_icmp .ge 30, 3) := by decide +kernel
theorem dX10_fresh__47 : decode cX10_fresh_ 47 = .ok (.aload_n 0, 1) := by decide +kernel
theorem dX10_fresh__48 : decode cX10_fresh_ 48 = .ok (.iload 4, 2) := by decide +kernel
theorem dX10_fresh__50 : decode cX10_fresh_ 50 = .ok (.iload_n 1, 1) := by decide +kernel
theorem dX10_fresh__51 : decode cX10_fresh_ 51 = .ok (.invokevirtual 307, 3) := by decide +kernel
theorem dX10_fresh__54 : decode cX10_fresh_ 54 = .ok (.pop, 1) := by decide +kernel
theorem dX10_fresh__55 : decode cX10_fresh_ 55 = .ok (.aload_n 0, 1) := by decide +kernel
theorem dX10_fresh__56 : decode cX10_fresh_ 56 = .ok (.iload_n 1, 1) := by decide +kernel
theorem dX10_fresh__57 : decode cX10_fresh_ 57 = .ok (.iload_n 2, 1) := by decide +kernel
theorem dX10_fresh__58 : decode cX10_fresh_ 58 = .ok (.iconst (-1), 1) := by decide +kernel
theorem dX10_fresh__59 : decode cX10_fresh_ 59 = .ok (.invokevirtual 310, 3) := by decide +kernel
theorem dX10_fresh__62 : decode cX10_fresh_ 62 = .ok (.ifCond .eq 6, 3) := by decide +kernel
theorem dX10_fresh__65 : decode cX10_fresh_ 65 = .ok (.iload 4, 2) := by decide +kernel
theorem dX10_fresh__67 : decode cX10_fresh_ 67 = .ok (.ireturn, 1) := by decide +kernel
theorem dX10_fresh__68 : decode cX10_fresh_ 68 = .ok (.iinc 4 1, 3) := by decide +kernel
theorem dX10_fresh__71 : decode cX10_fresh_ 71 = .ok (.goto (-30), 3) := by decide +kernel
theorem dX10_fresh__74 : decode cX10_fresh_ 74 = .ok (.iconst (-1), 1) := by decide +kernel
theorem dX10_fresh__75 : decode cX10_fresh_ 75 = .ok (.ireturn, 1) := by decide +kernel
theorem dX10_areApart_0 : decode cX10_areApart 0 = .ok (.iconst 0, 1) := by decide +kernel
theorem dX10_areApart_1 : decode cX10_areApart 1 = .ok (.istore_n 3, 1) := by decide +kernel
theorem dX10_areApart_2 : decode cX10_areApart 2 = .ok (.iload_n 3, 1) := by decide +kernel
theorem dX10_areApart_3 : decode cX10_areApart 3 = .ok (.aload_n 0, 1) := by decide +kernel
theorem dX10_areApart_4 : decode cX10_areApart 4 = .ok (.getfield 88, 3) := by decide +kernel
theorem dX10_areApart_7 : decode cX10_areApart 7 = .ok (.if_icmp .ge 54, 3) := by decide +kernel
theorem dX10_areApart_10 : decode cX10_areApart 10 = .ok (.iconst 0, 1) := by decide +kernel
theorem dX10_areApart_11 : decode cX10_areApart 11 = .ok (.istore 4, 2) := by decide +kernel
theorem dX10_areApart_13 : decode cX10_areApart 13 = .ok (.iload 4, 2) := by decide +kernel
theorem dX10_areApart_15 : decode cX10_areApart 15 = .ok (.iload_n 3, 1) := by decide +kernel
theorem dX10_areApart_16 : decode cX10_areApart 16 = .ok (.if_icmp .ge 39, 3) := by decide +kernel
theorem dX10_areApart_19 : decode cX10_areApart 19 = .ok (.iload_n 1, 1) := by decide +kernel
theorem dX10_areApart_20 : decode cX10_areApart 20 = .ok (.iload_n 3, 1) := by decide +kernel
theorem dX10_areApart_21 : decode cX10_areApart 21 = .ok (.invokestatic 313, 3) := by decide +kernel
theorem dX10_areApart_24 : decode cX10_areApart 24 = .ok (.ifCond .eq 25, 3) := by decide +kernel
theorem dX10_areApart_27 : decode cX10_areApart 27 = .ok (.iload_n 1, 1) := by decide +kernel
theorem dX10_areApart_28 : decode cX10_areApart 28 = .ok (.iload 4, 2) := by decide +kernel
theorem dX10_areApart_30 : decode cX10_areApart 30 = .ok (.invokestatic 313, 3) := by decide +kernel
theorem dX10_areApart_33 : decode cX10_areApart 33 = .ok (.ifCond .eq 16, 3) := by decide +kernel
theorem dX10_areApart_36 : decode cX10_areApart 36 = .ok (.aload_n 0, 1) := by decide +kernel
theorem dX10_areApart_37 : decode cX10_areApart 37 = .ok (.iload_n 3, 1) := by decide +kernel
theorem dX10_areApart_38 : decode cX10_areApart 38 = .ok (.iload 4, 2) := by decide +kernel
theorem dX10_areApart_40 : decode cX10_areApart 40 = .ok (.invokevirtual 282, 3) := by decide +kernel
theorem dX10_areApart_43 : decode cX10_areApart 43 = .ok (.iload_n 2, 1) := by decide +kernel
theorem dX10_areApart_44 : decode cX10_areApart 44 = .ok (.if_icmp .ge 5, 3) := by decide +kernel
theorem dX10_areApart_47 : decode cX10_areApart 47 = .ok (.iconst 0, 1) := by decide +kernel
theorem dX10_areApart_48 : decode cX10_areApart 48 = .ok (.ireturn, 1) := by decide +kernel
theorem dX10_areApart_49 : decode cX10_areApart 49 = .ok (.iinc 4 1, 3) := by decide +kernel
theorem dX10_areApart_52 : decode cX10_areApart 52 = .ok (.goto (-39), 3) := by decide +kernel
theorem dX10_areApart_55 : decode cX10_areApart 55 = .ok (.iinc 3 1, 3) := by decide +kernel
theorem dX10_areApart_58 : decode cX10_areApart 58 = .ok (.goto (-56), 3) := by decide +kernel
theorem dX10_areApart_61 : decode cX10_areApart 61 = .ok (.iconst 1, 1) := by decide +kernel
theorem dX10_areApart_62 : decode cX10_areApart 62 = .ok (.ireturn, 1) := by decide +kernel
theorem dX10_keep_0 : decode cX10_keep 0 = .ok (.iload_n 1, 1) := by decide +kernel
theorem dX10_keep_1 : decode cX10_keep 1 = .ok (.i2l, 1) := by decide +kernel
theorem dX10_keep_2 : decode cX10_keep 2 = .ok (.lconst 0, 1) := by decide +kernel
theorem dX10_keep_3 : decode cX10_keep 3 = .ok (.ldc2_w 139, 3) := by decide +kernel
theorem dX10_keep_6 : decode cX10_keep 6 = .ok (.invokestatic 91, 3) := by decide +kernel
theorem dX10_keep_9 : decode cX10_keep 9 = .ok (.ifCond .ne 10, 3) := by decide +kernel
theorem dX10_keep_12 : decode cX10_keep 12 = .ok (.aload_n 0, 1) := by decide +kernel
theorem dX10_keep_13 : decode cX10_keep 13 = .ok (.bipush (-2), 2) := by decide +kernel
theorem dX10_keep_15 : decode cX10_keep 15 = .ok (.invokevirtual 107, 3) := by decide +kernel
theorem dX10_keep_18 : decode cX10_keep 18 = .ok (.ireturn, 1) := by decide +kernel
theorem dX10_keep_19 : decode cX10_keep 19 = .ok (.iconst 0, 1) := by decide +kernel
theorem dX10_keep_20 : decode cX10_keep 20 = .ok (.istore_n 2, 1) := by decide +kernel
theorem dX10_keep_21 : decode cX10_keep 21 = .ok (.iconst (-1), 1) := by decide +kernel
theorem dX10_keep_22 : decode cX10_keep 22 = .ok (.istore_n 3, 1) := by decide +kernel
theorem dX10_keep_23 : decode cX10_keep 23 = .ok (.iconst 0, 1) := by decide +kernel
theorem dX10_keep_24 : decode cX10_keep 24 = .ok (.istore 4, 2) := by decide +kernel
theorem dX10_keep_26 : decode cX10_keep 26 = .ok (.iload 4, 2) := by decide +kernel
theorem dX10_keep_28 : decode cX10_keep 28 = .ok (.iconst 1, 1) := by decide +kernel
theorem dX10_keep_29 : decode cX10_keep 29 = .ok (.aload_n 0, 1) := by decide +kernel
theorem dX10_keep_30 : decode cX10_keep 30 = .ok (.getfield 88, 3) := by decide +kernel
theorem dX10_keep_33 : decode cX10_keep 33 = .ok (.ishl, 1) := by decide +kernel
theorem dX10_keep_34 : decode cX10_keep 34 = .ok (.if_icmp .ge 78, 3) := by decide +kernel
theorem dX10_keep_37 : decode cX10_keep 37 = .ok (.iconst 0, 1) := by decide +kernel
theorem dX10_keep_38 : decode cX10_keep 38 = .ok (.istore 5, 2) := by decide +kernel
theorem dX10_keep_40 : decode cX10_keep 40 = .ok (.iconst 0, 1) := by decide +kernel
theorem dX10_keep_41 : decode cX10_keep 41 = .ok (.istore 6, 2) := by decide +kernel
theorem dX10_keep_43 : decode cX10_keep 43 = .ok (.iload 6, 2) := by decide +kernel
theorem dX10_keep_45 : decode cX10_keep 45 = .ok (.aload_n 0, 1) := by decide +kernel
theorem dX10_keep_46 : decode cX10_keep 46 = .ok (.getfield 88, 3) := by decide +kernel
theorem dX10_keep_49 : decode cX10_keep 49 = .ok (.if_icmp .ge 35, 3) := by decide +kernel
theorem dX10_keep_52 : decode cX10_keep 52 = .ok (.iload 5, 2) := by decide +kernel
theorem dX10_keep_54 : decode cX10_keep 54 = .ok (.iload 4, 2) := by decide +kernel
theorem dX10_keep_56 : decode cX10_keep 56 = .ok (.iload 6, 2) := by decide +kernel
theorem dX10_keep_58 : decode cX10_keep 58 = .ok (.invokestatic 313, 3) := by decide +kernel
theorem dX10_keep_61 : decode cX10_keep 61 = .ok (.ifCond .eq 13, 3) := by decide +kernel
theorem dX10_keep_64 : decode cX10_keep 64 = .ok (.aload_n 0, 1) := by decide +kernel
theorem dX10_keep_65 : decode cX10_keep 65 = .ok (.getfield 45, 3) := by decide +kernel
theorem dX10_keep_68 : decode cX10_keep 68 = .ok (.iload 6, 2) := by decide +kernel
theorem dX10_keep_70 : decode cX10_keep 70 = .ok (.iaload, 1) := by decide +kernel
theorem dX10_keep_71 : decode cX10_keep 71 = .ok (.goto 4, 3) := by decide +kernel
theorem dX10_keep_74 : decode cX10_keep 74 = .ok (.iconst 0, 1) := by decide +kernel
theorem dX10_keep_75 : decode cX10_keep 75 = .ok (.iadd, 1) := by decide +kernel
theorem dX10_keep_76 : decode cX10_keep 76 = .ok (.istore 5, 2) := by decide +kernel
theorem dX10_keep_78 : decode cX10_keep 78 = .ok (.iinc 6 1, 3) := by decide +kernel
theorem dX10_keep_81 : decode cX10_keep 81 = .ok (.goto (-38), 3) := by decide +kernel
theorem dX10_keep_84 : decode cX10_keep 84 = .ok (.iload 5, 2) := by decide +kernel
theorem dX10_keep_86 : decode cX10_keep 86 = .ok (.iload_n 3, 1) := by decide +kernel
theorem dX10_keep_87 : decode cX10_keep 87 = .ok (.if_icmp .le 19, 3) := by decide +kernel
theorem dX10_keep_90 : decode cX10_keep 90 = .ok (.aload_n 0, 1) := by decide +kernel
theorem dX10_keep_91 : decode cX10_keep 91 = .ok (.iload 4, 2) := by decide +kernel
theorem dX10_keep_93 : decode cX10_keep 93 = .ok (.iload_n 1, 1) := by decide +kernel
theorem dX10_keep_94 : decode cX10_keep 94 = .ok (.invokevirtual 316, 3) := by decide +kernel
theorem dX10_keep_97 : decode cX10_keep 97 = .ok (.ifCond .eq 9, 3) := by decide +kernel
theorem dX10_keep_100 : decode cX10_keep 100 = .ok (.iload 4, 2) := by decide +kernel
theorem dX10_keep_102 : decode cX10_keep 102 = .ok (.istore_n 2, 1) := by decide +kernel
theorem dX10_keep_103 : decode cX10_keep 103 = .ok (.iload 5, 2) := by decide +kernel
theorem dX10_keep_105 : decode cX10_keep 105 = .ok (.istore_n 3, 1) := by decide +kernel
theorem dX10_keep_106 : decode cX10_keep 106 = .ok (.iinc 4 1, 3) := by decide +kernel
theorem dX10_keep_109 : decode cX10_keep 109 = .ok (.goto (-83), 3) := by decide +kernel
theorem dX10_keep_112 : decode cX10_keep 112 = .ok (.iload_n 2, 1) := by decide +kernel
theorem dX10_keep_113 : decode cX10_keep 113 = .ok (.ireturn, 1) := by decide +kernel
theorem dX10_mostDo_0 : decode cX10_mostDo 0 = .ok (.iconst (-1), 1) := by decide +kernel
theorem dX10_mostDo_1 : decode cX10_mostDo 1 = .ok (.istore_n 2, 1) := by decide +kernel
theorem dX10_mostDo_2 : decode cX10_mostDo 2 = .ok (.iconst 0, 1) := by decide +kernel
theorem dX10_mostDo_3 : decode cX10_mostDo 3 = .ok (.istore_n 3, 1) := by decide +kernel
theorem dX10_mostDo_4 : decode cX10_mostDo 4 = .ok (.iconst 0, 1) := by decide +kernel
theorem dX10_mostDo_5 : decode cX10_mostDo 5 = .ok (.istore 4, 2) := by decide +kernel
theorem dX10_mostDo_7 : decode cX10_mostDo 7 = .ok (.iload 4, 2) := by decide +kernel
theorem dX10_mostDo_9 : decode cX10_mostDo 9 = .ok (.aload_n 0, 1) := by decide +kernel
theorem dX10_mostDo_10 : decode cX10_mostDo 10 = .ok (.getfield 88, 3) := by decide +kernel
theorem dX10_mostDo_13 : decode cX10_mostDo 13 = .ok (.if_icmp .ge 61, 3) := by decide +kernel
theorem dX10_mostDo_16 : decode cX10_mostDo 16 = .ok (.iconst 0, 1) := by decide +kernel
theorem dX10_mostDo_17 : decode cX10_mostDo 17 = .ok (.istore 5, 2) := by decide +kernel
theorem dX10_mostDo_19 : decode cX10_mostDo 19 = .ok (.iconst 0, 1) := by decide +kernel
theorem dX10_mostDo_20 : decode cX10_mostDo 20 = .ok (.istore 6, 2) := by decide +kernel
theorem dX10_mostDo_22 : decode cX10_mostDo 22 = .ok (.iload 6, 2) := by decide +kernel
theorem dX10_mostDo_24 : decode cX10_mostDo 24 = .ok (.iload_n 1, 1) := by decide +kernel
theorem dX10_mostDo_25 : decode cX10_mostDo 25 = .ok (.if_icmp .ge 31, 3) := by decide +kernel
theorem dX10_mostDo_28 : decode cX10_mostDo 28 = .ok (.iload 5, 2) := by decide +kernel
theorem dX10_mostDo_30 : decode cX10_mostDo 30 = .ok (.aload_n 0, 1) := by decide +kernel
theorem dX10_mostDo_31 : decode cX10_mostDo 31 = .ok (.getfield 82, 3) := by decide +kernel
theorem dX10_mostDo_34 : decode cX10_mostDo 34 = .ok (.iload 6, 2) := by decide +kernel
theorem dX10_mostDo_36 : decode cX10_mostDo 36 = .ok (.iaload, 1) := by decide +kernel
theorem dX10_mostDo_37 : decode cX10_mostDo 37 = .ok (.iload 4, 2) := by decide +kernel
theorem dX10_mostDo_39 : decode cX10_mostDo 39 = .ok (.if_icmp .ne 7, 3) := by decide +kernel
theorem dX10_mostDo_42 : decode cX10_mostDo 42 = .ok (.iconst 1, 1) := by decide +kernel
theorem dX10_mostDo_43 : decode cX10_mostDo 43 = .ok (.goto 4, 3) := by decide +kernel
theorem dX10_mostDo_46 : decode cX10_mostDo 46 = .ok (.iconst 0, 1) := by decide +kernel
theorem dX10_mostDo_47 : decode cX10_mostDo 47 = .ok (.iadd, 1) := by decide +kernel
theorem dX10_mostDo_48 : decode cX10_mostDo 48 = .ok (.istore 5, 2) := by decide +kernel
theorem dX10_mostDo_50 : decode cX10_mostDo 50 = .ok (.iinc 6 1, 3) := by decide +kernel
theorem dX10_mostDo_53 : decode cX10_mostDo 53 = .ok (.goto (-31), 3) := by decide +kernel
theorem dX10_mostDo_56 : decode cX10_mostDo 56 = .ok (.iload 5, 2) := by decide +kernel
theorem dX10_mostDo_58 : decode cX10_mostDo 58 = .ok (.iload_n 3, 1) := by decide +kernel
theorem dX10_mostDo_59 : decode cX10_mostDo 59 = .ok (.if_icmp .le 9, 3) := by decide +kernel
theorem dX10_mostDo_62 : decode cX10_mostDo 62 = .ok (.iload 4, 2) := by decide +kernel
theorem dX10_mostDo_64 : decode cX10_mostDo 64 = .ok (.istore_n 2, 1) := by decide +kernel
theorem dX10_mostDo_65 : decode cX10_mostDo 65 = .ok (.iload 5, 2) := by decide +kernel
theorem dX10_mostDo_67 : decode cX10_mostDo 67 = .ok (.istore_n 3, 1) := by decide +kernel
theorem dX10_mostDo_68 : decode cX10_mostDo 68 = .ok (.iinc 4 1, 3) := by decide +kernel
theorem dX10_mostDo_71 : decode cX10_mostDo 71 = .ok (.goto (-64), 3) := by decide +kernel
theorem dX10_mostDo_74 : decode cX10_mostDo 74 = .ok (.iload_n 2, 1) := by decide +kernel
theorem dX10_mostDo_75 : decode cX10_mostDo 75 = .ok (.ireturn, 1) := by decide +kernel
theorem dX10_goes_0 : decode cX10_goes 0 = .ok (.iconst 0, 1) := by decide +kernel
theorem dX10_goes_1 : decode cX10_goes 1 = .ok (.istore_n 2, 1) := by decide +kernel
theorem dX10_goes_2 : decode cX10_goes 2 = .ok (.iload_n 2, 1) := by decide +kernel
theorem dX10_goes_3 : decode cX10_goes 3 = .ok (.aload_n 0, 1) := by decide +kernel
theorem dX10_goes_4 : decode cX10_goes 4 = .ok (.getfield 98, 3) := by decide +kernel
theorem dX10_goes_7 : decode cX10_goes 7 = .ok (.if_icmp .ge 129, 3) := by decide +kernel
theorem dX10_goes_10 : decode cX10_goes 10 = .ok (.aload_n 0, 1) := by decide +kernel
theorem dX10_goes_11 : decode cX10_goes 11 = .ok (.iload_n 1, 1) := by decide +kernel
theorem dX10_goes_12 : decode cX10_goes 12 = .ok (.aload_n 0, 1) := by decide +kernel
theorem dX10_goes_13 : decode cX10_goes 13 = .ok (.getfield 57, 3) := by decide +kernel
theorem dX10_goes_16 : decode cX10_goes 16 = .ok (.iload_n 2, 1) := by decide +kernel
theorem dX10_goes_17 : decode cX10_goes 17 = .ok (.iaload, 1) := by decide +kernel
theorem dX10_goes_18 : decode cX10_goes 18 = .ok (.aload_n 0, 1) := by decide +kernel
theorem dX10_goes_19 : decode cX10_goes 19 = .ok (.getfield 42, 3) := by decide +kernel
theorem dX10_goes_22 : decode cX10_goes 22 = .ok (.iload_n 1, 1) := by decide +kernel
theorem dX10_goes_23 : decode cX10_goes 23 = .ok (.iaload, 1) := by decide +kernel
theorem dX10_goes_24 : decode cX10_goes 24 = .ok (.iconst 1, 1) := by decide +kernel
theorem dX10_goes_25 : decode cX10_goes 25 = .ok (.invokevirtual 285, 3) := by decide +kernel
theorem dX10_goes_28 : decode cX10_goes 28 = .ok (.aload_n 0, 1) := by decide +kernel
theorem dX10_goes_29 : decode cX10_goes 29 = .ok (.getfield 85, 3) := by decide +kernel
theorem dX10_goes_32 : decode cX10_goes 32 = .ok (.iload_n 2, 1) := by decide +kernel
theorem dX10_goes_33 : decode cX10_goes 33 = .ok (.aload_n 0, 1) := by decide +kernel
theorem dX10_goes_34 : decode cX10_goes 34 = .ok (.aload_n 0, 1) := by decide +kernel
theorem dX10_goes_35 : decode cX10_goes 35 = .ok (.getfield 57, 3) := by decide +kernel
theorem dX10_goes_38 : decode cX10_goes 38 = .ok (.iload_n 2, 1) := by decide +kernel
theorem dX10_goes_39 : decode cX10_goes 39 = .ok (.iaload, 1) := by decide +kernel
theorem dX10_goes_40 : decode cX10_goes 40 = .ok (.invokevirtual 279, 3) := by decide +kernel
theorem dX10_goes_43 : decode cX10_goes 43 = .ok (.iastore, 1) := by decide +kernel
theorem dX10_goes_44 : decode cX10_goes 44 = .ok (.aload_n 0, 1) := by decide +kernel
theorem dX10_goes_45 : decode cX10_goes 45 = .ok (.getfield 85, 3) := by decide +kernel
theorem dX10_goes_48 : decode cX10_goes 48 = .ok (.iload_n 2, 1) := by decide +kernel
theorem dX10_goes_49 : decode cX10_goes 49 = .ok (.iaload, 1) := by decide +kernel
theorem dX10_goes_50 : decode cX10_goes 50 = .ok (.iconst (-1), 1) := by decide +kernel
theorem dX10_goes_51 : decode cX10_goes 51 = .ok (.if_icmp .eq 30, 3) := by decide +kernel
theorem dX10_goes_54 : decode cX10_goes 54 = .ok (.aload_n 0, 1) := by decide +kernel
theorem dX10_goes_55 : decode cX10_goes 55 = .ok (.aload_n 0, 1) := by decide +kernel
theorem dX10_goes_56 : decode cX10_goes 56 = .ok (.getfield 85, 3) := by decide +kernel
theorem dX10_goes_59 : decode cX10_goes 59 = .ok (.iload_n 2, 1) := by decide +kernel
theorem dX10_goes_60 : decode cX10_goes 60 = .ok (.iaload, 1) := by decide +kernel
theorem dX10_goes_61 : decode cX10_goes 61 = .ok (.aload_n 0, 1) := by decide +kernel
theorem dX10_goes_62 : decode cX10_goes 62 = .ok (.getfield 57, 3) := by decide +kernel
theorem dX10_goes_65 : decode cX10_goes 65 = .ok (.iload_n 2, 1) := by decide +kernel
theorem dX10_goes_66 : decode cX10_goes 66 = .ok (.iaload, 1) := by decide +kernel
theorem dX10_goes_67 : decode cX10_goes 67 = .ok (.invokevirtual 276, 3) := by decide +kernel
theorem dX10_goes_70 : decode cX10_goes 70 = .ok (.aload_n 0, 1) := by decide +kernel
theorem dX10_goes_71 : decode cX10_goes 71 = .ok (.getfield 63, 3) := by decide +kernel
theorem dX10_goes_74 : decode cX10_goes 74 = .ok (.if_icmp .lt 7, 3) := by decide +kernel
theorem dX10_goes_77 : decode cX10_goes 77 = .ok (.iconst 1, 1) := by decide +kernel
theorem dX10_goes_78 : decode cX10_goes 78 = .ok (.goto 4, 3) := by decide +kernel
theorem dX10_goes_81 : decode cX10_goes 81 = .ok (.iconst 0, 1) := by decide +kernel
theorem dX10_goes_82 : decode cX10_goes 82 = .ok (.istore_n 3, 1) := by decide +kernel
theorem dX10_goes_83 : decode cX10_goes 83 = .ok (.iload_n 3, 1) := by decide +kernel
theorem dX10_goes_84 : decode cX10_goes 84 = .ok (.ifCond .ne 12, 3) := by decide +kernel
theorem dX10_goes_87 : decode cX10_goes 87 = .ok (.aload_n 0, 1) := by decide +kernel
theorem dX10_goes_88 : decode cX10_goes 88 = .ok (.getfield 60, 3) := by decide +kernel
theorem dX10_goes_91 : decode cX10_goes 91 = .ok (.iload_n 2, 1) := by decide +kernel
theorem dX10_goes_92 : decode cX10_goes 92 = .ok (.iaload, 1) := by decide +kernel
theorem dX10_goes_93 : decode cX10_goes 93 = .ok (.ifCond .ne 7, 3) := by decide +kernel
theorem dX10_goes_96 : decode cX10_goes 96 = .ok (.iconst (-1), 1) := by decide +kernel
theorem dX10_goes_97 : decode cX10_goes 97 = .ok (.goto 8, 3) := by decide +kernel
theorem dX10_goes_100 : decode cX10_goes 100 = .ok (.aload_n 0, 1) := by decide +kernel
theorem dX10_goes_101 : decode cX10_goes 101 = .ok (.iload_n 2, 1) := by decide +kernel
theorem dX10_goes_102 : decode cX10_goes 102 = .ok (.invokevirtual 319, 3) := by decide +kernel
theorem dX10_goes_105 : decode cX10_goes 105 = .ok (.istore 4, 2) := by decide +kernel
theorem dX10_goes_107 : decode cX10_goes 107 = .ok (.aload_n 0, 1) := by decide +kernel
theorem dX10_goes_108 : decode cX10_goes 108 = .ok (.getfield 82, 3) := by decide +kernel
theorem dX10_goes_111 : decode cX10_goes 111 = .ok (.iload_n 2, 1) := by decide +kernel
theorem dX10_goes_112 : decode cX10_goes 112 = .ok (.iload 4, 2) := by decide +kernel
theorem dX10_goes_114 : decode cX10_goes 114 = .ok (.iconst (-1), 1) := by decide +kernel
theorem dX10_goes_115 : decode cX10_goes 115 = .ok (.if_icmp .eq 8, 3) := by decide +kernel
theorem dX10_goes_118 : decode cX10_goes 118 = .ok (.iload 4, 2) := by decide +kernel
theorem dX10_goes_120 : decode cX10_goes 120 = .ok (.goto 9, 3) := by decide +kernel
theorem dX10_goes_123 : decode cX10_goes 123 = .ok (.aload_n 0, 1) := by decide +kernel
theorem dX10_goes_124 : decode cX10_goes 124 = .ok (.getfield 85, 3) := by decide +kernel
theorem dX10_goes_127 : decode cX10_goes 127 = .ok (.iload_n 2, 1) := by decide +kernel
theorem dX10_goes_128 : decode cX10_goes 128 = .ok (.iaload, 1) := by decide +kernel
theorem dX10_goes_129 : decode cX10_goes 129 = .ok (.iastore, 1) := by decide +kernel
theorem dX10_goes_130 : decode cX10_goes 130 = .ok (.iinc 2 1, 3) := by decide +kernel
theorem dX10_goes_133 : decode cX10_goes 133 = .ok (.goto (-131), 3) := by decide +kernel
theorem dX10_goes_136 : decode cX10_goes 136 = .ok (.return_, 1) := by decide +kernel
theorem dX10_does_0 : decode cX10_does 0 = .ok (.aload_n 0, 1) := by decide +kernel
theorem dX10_does_1 : decode cX10_does 1 = .ok (.iload_n 1, 1) := by decide +kernel
theorem dX10_does_2 : decode cX10_does 2 = .ok (.invokevirtual 155, 3) := by decide +kernel
theorem dX10_does_5 : decode cX10_does 5 = .ok (.ifCond .eq 11, 3) := by decide +kernel
theorem dX10_does_8 : decode cX10_does 8 = .ok (.aload_n 0, 1) := by decide +kernel
theorem dX10_does_9 : decode cX10_does 9 = .ok (.iload_n 2, 1) := by decide +kernel
theorem dX10_does_10 : decode cX10_does 10 = .ok (.invokevirtual 251, 3) := by decide +kernel
theorem dX10_does_13 : decode cX10_does 13 = .ok (.ifCond .ne 10, 3) := by decide +kernel
theorem dX10_does_16 : decode cX10_does 16 = .ok (.aload_n 0, 1) := by decide +kernel
theorem dX10_does_17 : decode cX10_does 17 = .ok (.bipush (-2), 2) := by decide +kernel
theorem dX10_does_19 : decode cX10_does 19 = .ok (.invokevirtual 107, 3) := by decide +kernel
theorem dX10_does_22 : decode cX10_does 22 = .ok (.ireturn, 1) := by decide +kernel
theorem dX10_does_23 : decode cX10_does 23 = .ok (.aload_n 0, 1) := by decide +kernel
theorem dX10_does_24 : decode cX10_does 24 = .ok (.iload_n 1, 1) := by decide +kernel
theorem dX10_does_25 : decode cX10_does 25 = .ok (.invokevirtual 322, 3) := by decide +kernel
theorem dX10_does_28 : decode cX10_does 28 = .ok (.aload_n 0, 1) := by decide +kernel
theorem dX10_does_29 : decode cX10_does 29 = .ok (.getfield 82, 3) := by decide +kernel
theorem dX10_does_32 : decode cX10_does 32 = .ok (.iload_n 2, 1) := by decide +kernel
theorem dX10_does_33 : decode cX10_does 33 = .ok (.iaload, 1) := by decide +kernel
theorem dX10_does_34 : decode cX10_does 34 = .ok (.ireturn, 1) := by decide +kernel
theorem dX10_rightOf_0 : decode cX10_rightOf 0 = .ok (.aload_n 0, 1) := by decide +kernel
theorem dX10_rightOf_1 : decode cX10_rightOf 1 = .ok (.iload_n 1, 1) := by decide +kernel
theorem dX10_rightOf_2 : decode cX10_rightOf 2 = .ok (.invokevirtual 322, 3) := by decide +kernel
theorem dX10_rightOf_5 : decode cX10_rightOf 5 = .ok (.iconst 0, 1) := by decide +kernel
theorem dX10_rightOf_6 : decode cX10_rightOf 6 = .ok (.istore_n 2, 1) := by decide +kernel
theorem dX10_rightOf_7 : decode cX10_rightOf 7 = .ok (.iconst 0, 1) := by decide +kernel
theorem dX10_rightOf_8 : decode cX10_rightOf 8 = .ok (.istore_n 3, 1) := by decide +kernel
theorem dX10_rightOf_9 : decode cX10_rightOf 9 = .ok (.iload_n 3, 1) := by decide +kernel
theorem dX10_rightOf_10 : decode cX10_rightOf 10 = .ok (.aload_n 0, 1) := by decide +kernel
theorem dX10_rightOf_11 : decode cX10_rightOf 11 = .ok (.getfield 98, 3) := by decide +kernel
theorem dX10_rightOf_14 : decode cX10_rightOf 14 = .ok (.if_icmp .ge 27, 3) := by decide +kernel
theorem dX10_rightOf_17 : decode cX10_rightOf 17 = .ok (.iload_n 2, 1) := by decide +kernel
theorem dX10_rightOf_18 : decode cX10_rightOf 18 = .ok (.aload_n 0, 1) := by decide +kernel
theorem dX10_rightOf_19 : decode cX10_rightOf 19 = .ok (.getfield 82, 3) := by decide +kernel
theorem dX10_rightOf_22 : decode cX10_rightOf 22 = .ok (.iload_n 3, 1) := by decide +kernel
theorem dX10_rightOf_23 : decode cX10_rightOf 23 = .ok (.iaload, 1) := by decide +kernel
theorem dX10_rightOf_24 : decode cX10_rightOf 24 = .ok (.iload_n 1, 1) := by decide +kernel
theorem dX10_rightOf_25 : decode cX10_rightOf 25 = .ok (.if_icmp .ne 7, 3) := by decide +kernel
theorem dX10_rightOf_28 : decode cX10_rightOf 28 = .ok (.iconst 1, 1) := by decide +kernel
theorem dX10_rightOf_29 : decode cX10_rightOf 29 = .ok (.goto 4, 3) := by decide +kernel
theorem dX10_rightOf_32 : decode cX10_rightOf 32 = .ok (.iconst 0, 1) := by decide +kernel
theorem dX10_rightOf_33 : decode cX10_rightOf 33 = .ok (.iadd, 1) := by decide +kernel
theorem dX10_rightOf_34 : decode cX10_rightOf 34 = .ok (.istore_n 2, 1) := by decide +kernel
theorem dX10_rightOf_35 : decode cX10_rightOf 35 = .ok (.iinc 3 1, 3) := by decide +kernel
theorem dX10_rightOf_38 : decode cX10_rightOf 38 = .ok (.goto (-29), 3) := by decide +kernel
theorem dX10_rightOf_41 : decode cX10_rightOf 41 = .ok (.iload_n 2, 1) := by decide +kernel
theorem dX10_rightOf_42 : decode cX10_rightOf 42 = .ok (.ireturn, 1) := by decide +kernel
theorem dX10_right_0 : decode cX10_right 0 = .ok (.aload_n 0, 1) := by decide +kernel
theorem dX10_right_1 : decode cX10_right 1 = .ok (.iload_n 1, 1) := by decide +kernel
theorem dX10_right_2 : decode cX10_right 2 = .ok (.invokevirtual 155, 3) := by decide +kernel
theorem dX10_right_5 : decode cX10_right 5 = .ok (.ifCond .eq 11, 3) := by decide +kernel
theorem dX10_right_8 : decode cX10_right 8 = .ok (.aload_n 0, 1) := by decide +kernel
theorem dX10_right_9 : decode cX10_right 9 = .ok (.iload_n 1, 1) := by decide +kernel
theorem dX10_right_10 : decode cX10_right 10 = .ok (.invokevirtual 326, 3) := by decide +kernel
theorem dX10_right_13 : decode cX10_right 13 = .ok (.goto 9, 3) := by decide +kernel
theorem dX10_right_16 : decode cX10_right 16 = .ok (.aload_n 0, 1) := by decide +kernel
theorem dX10_right_17 : decode cX10_right 17 = .ok (.bipush (-2), 2) := by decide +kernel
theorem dX10_right_19 : decode cX10_right 19 = .ok (.invokevirtual 107, 3) := by decide +kernel
theorem dX10_right_22 : decode cX10_right 22 = .ok (.ireturn, 1) := by decide +kernel
theorem dX10_leads_0 : decode cX10_leads 0 = .ok (.aload_n 0, 1) := by decide +kernel
theorem dX10_leads_1 : decode cX10_leads 1 = .ok (.iload_n 1, 1) := by decide +kernel
theorem dX10_leads_2 : decode cX10_leads 2 = .ok (.invokevirtual 155, 3) := by decide +kernel
theorem dX10_leads_5 : decode cX10_leads 5 = .ok (.ifCond .ne 10, 3) := by decide +kernel
theorem dX10_leads_8 : decode cX10_leads 8 = .ok (.aload_n 0, 1) := by decide +kernel
theorem dX10_leads_9 : decode cX10_leads 9 = .ok (.bipush (-2), 2) := by decide +kernel
theorem dX10_leads_11 : decode cX10_leads 11 = .ok (.invokevirtual 107, 3) := by decide +kernel
theorem dX10_leads_14 : decode cX10_leads 14 = .ok (.ireturn, 1) := by decide +kernel
theorem dX10_leads_15 : decode cX10_leads 15 = .ok (.aload_n 0, 1) := by decide +kernel
theorem dX10_leads_16 : decode cX10_leads 16 = .ok (.iload_n 1, 1) := by decide +kernel
theorem dX10_leads_17 : decode cX10_leads 17 = .ok (.invokevirtual 322, 3) := by decide +kernel
theorem dX10_leads_20 : decode cX10_leads 20 = .ok (.iconst 0, 1) := by decide +kernel
theorem dX10_leads_21 : decode cX10_leads 21 = .ok (.istore_n 2, 1) := by decide +kernel
theorem dX10_leads_22 : decode cX10_leads 22 = .ok (.iload_n 2, 1) := by decide +kernel
theorem dX10_leads_23 : decode cX10_leads 23 = .ok (.aload_n 0, 1) := by decide +kernel
theorem dX10_leads_24 : decode cX10_leads 24 = .ok (.getfield 98, 3) := by decide +kernel
theorem dX10_leads_27 : decode cX10_leads 27 = .ok (.if_icmp .ge 31, 3) := by decide +kernel
theorem dX10_leads_30 : decode cX10_leads 30 = .ok (.aload_n 0, 1) := by decide +kernel
theorem dX10_leads_31 : decode cX10_leads 31 = .ok (.getfield 82, 3) := by decide +kernel
theorem dX10_leads_34 : decode cX10_leads 34 = .ok (.iload_n 2, 1) := by decide +kernel
theorem dX10_leads_35 : decode cX10_leads 35 = .ok (.iaload, 1) := by decide +kernel
theorem dX10_leads_36 : decode cX10_leads 36 = .ok (.iload_n 1, 1) := by decide +kernel
theorem dX10_leads_37 : decode cX10_leads 37 = .ok (.if_icmp .eq 15, 3) := by decide +kernel
theorem dX10_leads_40 : decode cX10_leads 40 = .ok (.aload_n 0, 1) := by decide +kernel
theorem dX10_leads_41 : decode cX10_leads 41 = .ok (.getfield 82, 3) := by decide +kernel
theorem dX10_leads_44 : decode cX10_leads 44 = .ok (.iload_n 2, 1) := by decide +kernel
theorem dX10_leads_45 : decode cX10_leads 45 = .ok (.iaload, 1) := by decide +kernel
theorem dX10_leads_46 : decode cX10_leads 46 = .ok (.iconst (-1), 1) := by decide +kernel
theorem dX10_leads_47 : decode cX10_leads 47 = .ok (.if_icmp .eq 5, 3) := by decide +kernel
theorem dX10_leads_50 : decode cX10_leads 50 = .ok (.iload_n 2, 1) := by decide +kernel
theorem dX10_leads_51 : decode cX10_leads 51 = .ok (.ireturn, 1) := by decide +kernel
theorem dX10_leads_52 : decode cX10_leads 52 = .ok (.iinc 2 1, 3) := by decide +kernel
theorem dX10_leads_55 : decode cX10_leads 55 = .ok (.goto (-33), 3) := by decide +kernel
theorem dX10_leads_58 : decode cX10_leads 58 = .ok (.iconst (-1), 1) := by decide +kernel
theorem dX10_leads_59 : decode cX10_leads 59 = .ok (.ireturn, 1) := by decide +kernel
theorem dX10_follows_0 : decode cX10_follows 0 = .ok (.aload_n 0, 1) := by decide +kernel
theorem dX10_follows_1 : decode cX10_follows 1 = .ok (.iload_n 1, 1) := by decide +kernel
theorem dX10_follows_2 : decode cX10_follows 2 = .ok (.invokevirtual 155, 3) := by decide +kernel
theorem dX10_follows_5 : decode cX10_follows 5 = .ok (.ifCond .ne 10, 3) := by decide +kernel
theorem dX10_follows_8 : decode cX10_follows 8 = .ok (.aload_n 0, 1) := by decide +kernel
theorem dX10_follows_9 : decode cX10_follows 9 = .ok (.bipush (-2), 2) := by decide +kernel
theorem dX10_follows_11 : decode cX10_follows 11 = .ok (.invokevirtual 107, 3) := by decide +kernel
theorem dX10_follows_14 : decode cX10_follows 14 = .ok (.ireturn, 1) := by decide +kernel
theorem dX10_follows_15 : decode cX10_follows 15 = .ok (.aload_n 0, 1) := by decide +kernel
theorem dX10_follows_16 : decode cX10_follows 16 = .ok (.iload_n 1, 1) := by decide +kernel
theorem dX10_follows_17 : decode cX10_follows 17 = .ok (.invokevirtual 322, 3) := by decide +kernel
theorem dX10_follows_20 : decode cX10_follows 20 = .ok (.iconst 0, 1) := by decide +kernel
theorem dX10_follows_21 : decode cX10_follows 21 = .ok (.istore_n 2, 1) := by decide +kernel
theorem dX10_follows_22 : decode cX10_follows 22 = .ok (.iconst 0, 1) := by decide +kernel
theorem dX10_follows_23 : decode cX10_follows 23 = .ok (.istore_n 3, 1) := by decide +kernel
theorem dX10_follows_24 : decode cX10_follows 24 = .ok (.iload_n 3, 1) := by decide +kernel
theorem dX10_follows_25 : decode cX10_follows 25 = .ok (.aload_n 0, 1) := by decide +kernel
theorem dX10_follows_26 : decode cX10_follows 26 = .ok (.getfield 98, 3) := by decide +kernel
theorem dX10_follows_29 : decode cX10_follows 29 = .ok (.if_icmp .ge 34, 3) := by decide +kernel
theorem dX10_follows_32 : decode cX10_follows 32 = .ok (.iload_n 2, 1) := by decide +kernel
theorem dX10_follows_33 : decode cX10_follows 33 = .ok (.aload_n 0, 1) := by decide +kernel
theorem dX10_follows_34 : decode cX10_follows 34 = .ok (.getfield 82, 3) := by decide +kernel
theorem dX10_follows_37 : decode cX10_follows 37 = .ok (.iload_n 3, 1) := by decide +kernel
theorem dX10_follows_38 : decode cX10_follows 38 = .ok (.iaload, 1) := by decide +kernel
theorem dX10_follows_39 : decode cX10_follows 39 = .ok (.aload_n 0, 1) := by decide +kernel
theorem dX10_follows_40 : decode cX10_follows 40 = .ok (.getfield 85, 3) := by decide +kernel
theorem dX10_follows_43 : decode cX10_follows 43 = .ok (.iload_n 3, 1) := by decide +kernel
theorem dX10_follows_44 : decode cX10_follows 44 = .ok (.iaload, 1) := by decide +kernel
theorem dX10_follows_45 : decode cX10_follows 45 = .ok (.if_icmp .eq 9, 3) := by decide +kernel
theorem dX10_follows_48 : decode cX10_follows 48 = .ok (.iconst 1, 1) := by decide +kernel
theorem dX10_follows_49 : decode cX10_follows 49 = .ok (.iload_n 3, 1) := by decide +kernel
theorem dX10_follows_50 : decode cX10_follows 50 = .ok (.ishl, 1) := by decide +kernel
theorem dX10_follows_51 : decode cX10_follows 51 = .ok (.goto 4, 3) := by decide +kernel
theorem dX10_follows_54 : decode cX10_follows 54 = .ok (.iconst 0, 1) := by decide +kernel
theorem dX10_follows_55 : decode cX10_follows 55 = .ok (.ior, 1) := by decide +kernel
theorem dX10_follows_56 : decode cX10_follows 56 = .ok (.istore_n 2, 1) := by decide +kernel
theorem dX10_follows_57 : decode cX10_follows 57 = .ok (.iinc 3 1, 3) := by decide +kernel
theorem dX10_follows_60 : decode cX10_follows 60 = .ok (.goto (-36), 3) := by decide +kernel
theorem dX10_follows_63 : decode cX10_follows 63 = .ok (.iload_n 2, 1) := by decide +kernel
theorem dX10_follows_64 : decode cX10_follows 64 = .ok (.ireturn, 1) := by decide +kernel
theorem dX10_sureFor_0 : decode cX10_sureFor 0 = .ok (.aload_n 0, 1) := by decide +kernel
theorem dX10_sureFor_1 : decode cX10_sureFor 1 = .ok (.iload_n 1, 1) := by decide +kernel
theorem dX10_sureFor_2 : decode cX10_sureFor 2 = .ok (.invokevirtual 155, 3) := by decide +kernel
theorem dX10_sureFor_5 : decode cX10_sureFor 5 = .ok (.ifCond .ne 10, 3) := by decide +kernel
theorem dX10_sureFor_8 : decode cX10_sureFor 8 = .ok (.aload_n 0, 1) := by decide +kernel
theorem dX10_sureFor_9 : decode cX10_sureFor 9 = .ok (.bipush (-2), 2) := by decide +kernel
theorem dX10_sureFor_11 : decode cX10_sureFor 11 = .ok (.invokevirtual 107, 3) := by decide +kernel
theorem dX10_sureFor_14 : decode cX10_sureFor 14 = .ok (.ireturn, 1) := by decide +kernel
theorem dX10_sureFor_15 : decode cX10_sureFor 15 = .ok (.aload_n 0, 1) := by decide +kernel
theorem dX10_sureFor_16 : decode cX10_sureFor 16 = .ok (.invokevirtual 242, 3) := by decide +kernel
theorem dX10_sureFor_19 : decode cX10_sureFor 19 = .ok (.astore_n 2, 1) := by decide +kernel
theorem dX10_sureFor_20 : decode cX10_sureFor 20 = .ok (.iconst 0, 1) := by decide +kernel
theorem dX10_sureFor_21 : decode cX10_sureFor 21 = .ok (.istore_n 3, 1) := by decide +kernel
theorem dX10_sureFor_22 : decode cX10_sureFor 22 = .ok (.iload_n 3, 1) := by decide +kernel
theorem dX10_sureFor_23 : decode cX10_sureFor 23 = .ok (.sipush 1000, 3) := by decide +kernel
theorem dX10_sureFor_26 : decode cX10_sureFor 26 = .ok (.if_icmp .gt 28, 3) := by decide +kernel
theorem dX10_sureFor_29 : decode cX10_sureFor 29 = .ok (.aload_n 2, 1) := by decide +kernel
theorem dX10_sureFor_30 : decode cX10_sureFor 30 = .ok (.iload_n 3, 1) := by decide +kernel
theorem dX10_sureFor_31 : decode cX10_sureFor 31 = .ok (.putfield 63, 3) := by decide +kernel
theorem dX10_sureFor_34 : decode cX10_sureFor 34 = .ok (.aload_n 2, 1) := by decide +kernel
theorem dX10_sureFor_35 : decode cX10_sureFor 35 = .ok (.iload_n 1, 1) := by decide +kernel
theorem dX10_sureFor_36 : decode cX10_sureFor 36 = .ok (.invokevirtual 326, 3) := by decide +kernel
theorem dX10_sureFor_39 : decode cX10_sureFor 39 = .ok (.aload_n 0, 1) := by decide +kernel
theorem dX10_sureFor_40 : decode cX10_sureFor 40 = .ok (.getfield 98, 3) := by decide +kernel
theorem dX10_sureFor_43 : decode cX10_sureFor 43 = .ok (.if_icmp .ne 5, 3) := by decide +kernel
theorem dX10_sureFor_46 : decode cX10_sureFor 46 = .ok (.iload_n 3, 1) := by decide +kernel
theorem dX10_sureFor_47 : decode cX10_sureFor 47 = .ok (.ireturn, 1) := by decide +kernel
theorem dX10_sureFor_48 : decode cX10_sureFor 48 = .ok (.iinc 3 10, 3) := by decide +kernel
theorem dX10_sureFor_51 : decode cX10_sureFor 51 = .ok (.goto (-29), 3) := by decide +kernel
theorem dX10_sureFor_54 : decode cX10_sureFor 54 = .ok (.iconst (-1), 1) := by decide +kernel
theorem dX10_sureFor_55 : decode cX10_sureFor 55 = .ok (.ireturn, 1) := by decide +kernel
theorem dX10_learn_0 : decode cX10_learn 0 = .ok (.aload_n 0, 1) := by decide +kernel
theorem dX10_learn_1 : decode cX10_learn 1 = .ok (.iload_n 1, 1) := by decide +kernel
theorem dX10_learn_2 : decode cX10_learn 2 = .ok (.invokevirtual 155, 3) := by decide +kernel
theorem dX10_learn_5 : decode cX10_learn 5 = .ok (.ifCond .ne 10, 3) := by decide +kernel
theorem dX10_learn_8 : decode cX10_learn 8 = .ok (.aload_n 0, 1) := by decide +kernel
theorem dX10_learn_9 : decode cX10_learn 9 = .ok (.bipush (-2), 2) := by decide +kernel
theorem dX10_learn_11 : decode cX10_learn 11 = .ok (.invokevirtual 107, 3) := by decide +kernel
theorem dX10_learn_14 : decode cX10_learn 14 = .ok (.ireturn, 1) := by decide +kernel
theorem dX10_learn_15 : decode cX10_learn 15 = .ok (.iconst 0, 1) := by decide +kernel
theorem dX10_learn_16 : decode cX10_learn 16 = .ok (.istore_n 2, 1) := by decide +kernel
theorem dX10_learn_17 : decode cX10_learn 17 = .ok (.iconst (-1), 1) := by decide +kernel
theorem dX10_learn_18 : decode cX10_learn 18 = .ok (.istore_n 3, 1) := by decide +kernel
theorem dX10_learn_19 : decode cX10_learn 19 = .ok (.iconst 0, 1) := by decide +kernel
theorem dX10_learn_20 : decode cX10_learn 20 = .ok (.istore 4, 2) := by decide +kernel
theorem dX10_learn_22 : decode cX10_learn 22 = .ok (.iload 4, 2) := by decide +kernel
theorem dX10_learn_24 : decode cX10_learn 24 = .ok (.iload_n 1, 1) := by decide +kernel
theorem dX10_learn_25 : decode cX10_learn 25 = .ok (.if_icmp .gt 83, 3) := by decide +kernel
theorem dX10_learn_28 : decode cX10_learn 28 = .ok (.iconst (-1), 1) := by decide +kernel
theorem dX10_learn_29 : decode cX10_learn 29 = .ok (.istore_n 3, 1) := by decide +kernel
theorem dX10_learn_30 : decode cX10_learn 30 = .ok (.iconst 0, 1) := by decide +kernel
theorem dX10_learn_31 : decode cX10_learn 31 = .ok (.istore 5, 2) := by decide +kernel
theorem dX10_learn_33 : decode cX10_learn 33 = .ok (.iload 5, 2) := by decide +kernel
theorem dX10_learn_35 : decode cX10_learn 35 = .ok (.aload_n 0, 1) := by decide +kernel
theorem dX10_learn_36 : decode cX10_learn 36 = .ok (.getfield 88, 3) := by decide +kernel
theorem dX10_learn_39 : decode cX10_learn 39 = .ok (.if_icmp .ge 57, 3) := by decide +kernel
theorem dX10_learn_42 : decode cX10_learn 42 = .ok (.iload_n 2, 1) := by decide +kernel
theorem dX10_learn_43 : decode cX10_learn 43 = .ok (.iload 5, 2) := by decide +kernel
theorem dX10_learn_45 : decode cX10_learn 45 = .ok (.invokestatic 313, 3) := by decide +kernel
theorem dX10_learn_48 : decode cX10_learn 48 = .ok (.ifCond .ne 42, 3) := by decide +kernel
theorem dX10_learn_51 : decode cX10_learn 51 = .ok (.iload_n 3, 1) := by decide +kernel
theorem dX10_learn_52 : decode cX10_learn 52 = .ok (.iconst (-1), 1) := by decide +kernel
theorem dX10_learn_53 : decode cX10_learn 53 = .ok (.if_icmp .eq 34, 3) := by decide +kernel
theorem dX10_learn_56 : decode cX10_learn 56 = .ok (.aload_n 0, 1) := by decide +kernel
theorem dX10_learn_57 : decode cX10_learn 57 = .ok (.getfield 45, 3) := by decide +kernel
theorem dX10_learn_60 : decode cX10_learn 60 = .ok (.iload 5, 2) := by decide +kernel
theorem dX10_learn_62 : decode cX10_learn 62 = .ok (.iaload, 1) := by decide +kernel
theorem dX10_learn_63 : decode cX10_learn 63 = .ok (.aload_n 0, 1) := by decide +kernel
theorem dX10_learn_64 : decode cX10_learn 64 = .ok (.getfield 48, 3) := by decide +kernel
theorem dX10_learn_67 : decode cX10_learn 67 = .ok (.iload 5, 2) := by decide +kernel
theorem dX10_learn_69 : decode cX10_learn 69 = .ok (.iaload, 1) := by decide +kernel
theorem dX10_learn_70 : decode cX10_learn 70 = .ok (.imul, 1) := by decide +kernel
theorem dX10_learn_71 : decode cX10_learn 71 = .ok (.aload_n 0, 1) := by decide +kernel
theorem dX10_learn_72 : decode cX10_learn 72 = .ok (.getfield 45, 3) := by decide +kernel
theorem dX10_learn_75 : decode cX10_learn 75 = .ok (.iload_n 3, 1) := by decide +kernel
theorem dX10_learn_76 : decode cX10_learn 76 = .ok (.iaload, 1) := by decide +kernel
theorem dX10_learn_77 : decode cX10_learn 77 = .ok (.aload_n 0, 1) := by decide +kernel
theorem dX10_learn_78 : decode cX10_learn 78 = .ok (.getfield 48, 3) := by decide +kernel
theorem dX10_learn_81 : decode cX10_learn 81 = .ok (.iload_n 3, 1) := by decide +kernel
theorem dX10_learn_82 : decode cX10_learn 82 = .ok (.iaload, 1) := by decide +kernel
theorem dX10_learn_83 : decode cX10_learn 83 = .ok (.imul, 1) := by decide +kernel
theorem dX10_learn_84 : decode cX10_learn 84 = .ok (.if_icmp .le 6, 3) := by decide +kernel
theorem dX10_learn_87 : decode cX10_learn 87 = .ok (.iload 5, 2) := by decide +kernel
theorem dX10_learn_89 : decode cX10_learn 89 = .ok (.istore_n 3, 1) := by decide +kernel
theorem dX10_learn_90 : decode cX10_learn 90 = .ok (.iinc 5 1, 3) := by decide +kernel
theorem dX10_learn_93 : decode cX10_learn 93 = .ok (.goto (-60), 3) := by decide +kernel
theorem dX10_learn_96 : decode cX10_learn 96 = .ok (.iload_n 2, 1) := by decide +kernel
theorem dX10_learn_97 : decode cX10_learn 97 = .ok (.iconst 1, 1) := by decide +kernel
theorem dX10_learn_98 : decode cX10_learn 98 = .ok (.iload_n 3, 1) := by decide +kernel
theorem dX10_learn_99 : decode cX10_learn 99 = .ok (.ishl, 1) := by decide +kernel
theorem dX10_learn_100 : decode cX10_learn 100 = .ok (.ior, 1) := by decide +kernel
theorem dX10_learn_101 : decode cX10_learn 101 = .ok (.istore_n 2, 1) := by decide +kernel
theorem dX10_learn_102 : decode cX10_learn 102 = .ok (.iinc 4 1, 3) := by decide +kernel
theorem dX10_learn_105 : decode cX10_learn 105 = .ok (.goto (-83), 3) := by decide +kernel
theorem dX10_learn_108 : decode cX10_learn 108 = .ok (.iload_n 3, 1) := by decide +kernel
theorem dX10_learn_109 : decode cX10_learn 109 = .ok (.ireturn, 1) := by decide +kernel
theorem dX10_differs_0 : decode cX10_differs 0 = .ok (.aload_n 0, 1) := by decide +kernel
theorem dX10_differs_1 : decode cX10_differs 1 = .ok (.getfield 42, 3) := by decide +kernel
theorem dX10_differs_4 : decode cX10_differs 4 = .ok (.iload_n 1, 1) := by decide +kernel
theorem dX10_differs_5 : decode cX10_differs 5 = .ok (.iaload, 1) := by decide +kernel
theorem dX10_differs_6 : decode cX10_differs 6 = .ok (.aload_n 0, 1) := by decide +kernel
theorem dX10_differs_7 : decode cX10_differs 7 = .ok (.getfield 262, 3) := by decide +kernel
theorem dX10_differs_10 : decode cX10_differs 10 = .ok (.if_icmp .le 12, 3) := by decide +kernel
theorem dX10_differs_13 : decode cX10_differs 13 = .ok (.aload_n 0, 1) := by decide +kernel
theorem dX10_differs_14 : decode cX10_differs 14 = .ok (.getfield 42, 3) := by decide +kernel
theorem dX10_differs_17 : decode cX10_differs 17 = .ok (.iload_n 1, 1) := by decide +kernel
theorem dX10_differs_18 : decode cX10_differs 18 = .ok (.iaload, 1) := by decide +kernel
theorem dX10_differs_19 : decode cX10_differs 19 = .ok (.goto 7, 3) := by decide +kernel
theorem dX10_differs_22 : decode cX10_differs 22 = .ok (.aload_n 0, 1) := by decide +kernel
theorem dX10_differs_23 : decode cX10_differs 23 = .ok (.getfield 262, 3) := by decide +kernel
theorem dX10_differs_26 : decode cX10_differs 26 = .ok (.istore_n 2, 1) := by decide +kernel
theorem dX10_differs_27 : decode cX10_differs 27 = .ok (.iconst 0, 1) := by decide +kernel
theorem dX10_differs_28 : decode cX10_differs 28 = .ok (.istore_n 3, 1) := by decide +kernel
theorem dX10_differs_29 : decode cX10_differs 29 = .ok (.iconst 0, 1) := by decide +kernel
theorem dX10_differs_30 : decode cX10_differs 30 = .ok (.istore 4, 2) := by decide +kernel
theorem dX10_differs_32 : decode cX10_differs 32 = .ok (.iload 4, 2) := by decide +kernel
theorem dX10_differs_34 : decode cX10_differs 34 = .ok (.iload_n 2, 1) := by decide +kernel
theorem dX10_differs_35 : decode cX10_differs 35 = .ok (.if_icmp .ge 84, 3) := by decide +kernel
theorem dX10_differs_38 : decode cX10_differs 38 = .ok (.iload 4, 2) := by decide +kernel
theorem dX10_differs_40 : decode cX10_differs 40 = .ok (.aload_n 0, 1) := by decide +kernel
theorem dX10_differs_41 : decode cX10_differs 41 = .ok (.getfield 262, 3) := by decide +kernel
theorem dX10_differs_44 : decode cX10_differs 44 = .ok (.if_icmp .ge 14, 3) := by decide +kernel
theorem dX10_differs_47 : decode cX10_differs 47 = .ok (.iload 4, 2) := by decide +kernel
theorem dX10_differs_49 : decode cX10_differs 49 = .ok (.aload_n 0, 1) := by decide +kernel
theorem dX10_differs_50 : decode cX10_differs 50 = .ok (.getfield 42, 3) := by decide +kernel
theorem dX10_differs_53 : decode cX10_differs 53 = .ok (.iload_n 1, 1) := by decide +kernel
theorem dX10_differs_54 : decode cX10_differs 54 = .ok (.iaload, 1) := by decide +kernel
theorem dX10_differs_55 : decode cX10_differs 55 = .ok (.if_icmp .lt 7, 3) := by decide +kernel
theorem dX10_differs_58 : decode cX10_differs 58 = .ok (.iconst 1, 1) := by decide +kernel
theorem dX10_differs_59 : decode cX10_differs 59 = .ok (.goto 4, 3) := by decide +kernel
theorem dX10_differs_62 : decode cX10_differs 62 = .ok (.iconst 0, 1) := by decide +kernel
theorem dX10_differs_63 : decode cX10_differs 63 = .ok (.istore 5, 2) := by decide +kernel
theorem dX10_differs_65 : decode cX10_differs 65 = .ok (.iload_n 3, 1) := by decide +kernel
theorem dX10_differs_66 : decode cX10_differs 66 = .ok (.iload 5, 2) := by decide +kernel
theorem dX10_differs_68 : decode cX10_differs 68 = .ok (.ifCond .ne 38, 3) := by decide +kernel
theorem dX10_differs_71 : decode cX10_differs 71 = .ok (.aload_n 0, 1) := by decide +kernel
theorem dX10_differs_72 : decode cX10_differs 72 = .ok (.getfield 76, 3) := by decide +kernel
theorem dX10_differs_75 : decode cX10_differs 75 = .ok (.iload 4, 2) := by decide +kernel
theorem dX10_differs_77 : decode cX10_differs 77 = .ok (.laload, 1) := by decide +kernel
theorem dX10_differs_78 : decode cX10_differs 78 = .ok (.ldc2_w 146, 3) := by decide +kernel
theorem dX10_differs_81 : decode cX10_differs 81 = .ok (.lcmp, 1) := by decide +kernel
theorem dX10_differs_82 : decode cX10_differs 82 = .ok (.ifCond .eq 28, 3) := by decide +kernel
theorem dX10_differs_85 : decode cX10_differs 85 = .ok (.aload_n 0, 1) := by decide +kernel
theorem dX10_differs_86 : decode cX10_differs 86 = .ok (.getfield 76, 3) := by decide +kernel
theorem dX10_differs_89 : decode cX10_differs 89 = .ok (.iload 4, 2) := by decide +kernel
theorem dX10_differs_91 : decode cX10_differs 91 = .ok (.laload, 1) := by decide +kernel
theorem dX10_differs_92 : decode cX10_differs 92 = .ok (.aload_n 0, 1) := by decide +kernel
theorem dX10_differs_93 : decode cX10_differs 93 = .ok (.getfield 39, 3) := by decide +kernel
theorem dX10_differs_96 : decode cX10_differs 96 = .ok (.iload_n 1, 1) := by decide +kernel
theorem dX10_differs_97 : decode cX10_differs 97 = .ok (.aaload, 1) := by decide +kernel
theorem dX10_differs_98 : decode cX10_differs 98 = .ok (.iload 4, 2) := by decide +kernel
theorem dX10_differs_100 : decode cX10_differs 100 = .ok (.iaload, 1) := by decide +kernel
theorem dX10_differs_101 : decode cX10_differs 101 = .ok (.i2l, 1) := by decide +kernel
theorem dX10_differs_102 : decode cX10_differs 102 = .ok (.lcmp, 1) := by decide +kernel
theorem dX10_differs_103 : decode cX10_differs 103 = .ok (.ifCond .eq 7, 3) := by decide +kernel
theorem dX10_differs_106 : decode cX10_differs 106 = .ok (.iconst 1, 1) := by decide +kernel
theorem dX10_differs_107 : decode cX10_differs 107 = .ok (.goto 4, 3) := by decide +kernel
theorem dX10_differs_110 : decode cX10_differs 110 = .ok (.iconst 0, 1) := by decide +kernel
theorem dX10_differs_111 : decode cX10_differs 111 = .ok (.iadd, 1) := by decide +kernel
theorem dX10_differs_112 : decode cX10_differs 112 = .ok (.istore_n 3, 1) := by decide +kernel
theorem dX10_differs_113 : decode cX10_differs 113 = .ok (.iinc 4 1, 3) := by decide +kernel
theorem dX10_differs_116 : decode cX10_differs 116 = .ok (.goto (-84), 3) := by decide +kernel
theorem dX10_differs_119 : decode cX10_differs 119 = .ok (.iload_n 3, 1) := by decide +kernel
theorem dX10_differs_120 : decode cX10_differs 120 = .ok (.ireturn, 1) := by decide +kernel
theorem dX10_nearestOf_0 : decode cX10_nearestOf 0 = .ok (.iconst 0, 1) := by decide +kernel
theorem dX10_nearestOf_1 : decode cX10_nearestOf 1 = .ok (.istore_n 1, 1) := by decide +kernel
theorem dX10_nearestOf_2 : decode cX10_nearestOf 2 = .ok (.iconst 1, 1) := by decide +kernel
theorem dX10_nearestOf_3 : decode cX10_nearestOf 3 = .ok (.istore_n 2, 1) := by decide +kernel
theorem dX10_nearestOf_4 : decode cX10_nearestOf 4 = .ok (.iload_n 2, 1) := by decide +kernel
theorem dX10_nearestOf_5 : decode cX10_nearestOf 5 = .ok (.aload_n 0, 1) := by decide +kernel
theorem dX10_nearestOf_6 : decode cX10_nearestOf 6 = .ok (.getfield 88, 3) := by decide +kernel
theorem dX10_nearestOf_9 : decode cX10_nearestOf 9 = .ok (.if_icmp .ge 28, 3) := by decide +kernel
theorem dX10_nearestOf_12 : decode cX10_nearestOf 12 = .ok (.aload_n 0, 1) := by decide +kernel
theorem dX10_nearestOf_13 : decode cX10_nearestOf 13 = .ok (.iload_n 2, 1) := by decide +kernel
theorem dX10_nearestOf_14 : decode cX10_nearestOf 14 = .ok (.invokevirtual 329, 3) := by decide +kernel
theorem dX10_nearestOf_17 : decode cX10_nearestOf 17 = .ok (.aload_n 0, 1) := by decide +kernel
theorem dX10_nearestOf_18 : decode cX10_nearestOf 18 = .ok (.iload_n 1, 1) := by decide +kernel
theorem dX10_nearestOf_19 : decode cX10_nearestOf 19 = .ok (.invokevirtual 329, 3) := by decide +kernel
theorem dX10_nearestOf_22 : decode cX10_nearestOf 22 = .ok (.if_icmp .ge 7, 3) := by decide +kernel
theorem dX10_nearestOf_25 : decode cX10_nearestOf 25 = .ok (.iload_n 2, 1) := by decide +kernel
theorem dX10_nearestOf_26 : decode cX10_nearestOf 26 = .ok (.goto 4, 3) := by decide +kernel
theorem dX10_nearestOf_29 : decode cX10_nearestOf 29 = .ok (.iload_n 1, 1) := by decide +kernel
theorem dX10_nearestOf_30 : decode cX10_nearestOf 30 = .ok (.istore_n 1, 1) := by decide +kernel
theorem dX10_nearestOf_31 : decode cX10_nearestOf 31 = .ok (.iinc 2 1, 3) := by decide +kernel
theorem dX10_nearestOf_34 : decode cX10_nearestOf 34 = .ok (.goto (-30), 3) := by decide +kernel
theorem dX10_nearestOf_37 : decode cX10_nearestOf 37 = .ok (.iload_n 1, 1) := by decide +kernel
theorem dX10_nearestOf_38 : decode cX10_nearestOf 38 = .ok (.ireturn, 1) := by decide +kernel
theorem dX10_nearest_0 : decode cX10_nearest 0 = .ok (.aload_n 0, 1) := by decide +kernel
theorem dX10_nearest_1 : decode cX10_nearest 1 = .ok (.iload_n 1, 1) := by decide +kernel
theorem dX10_nearest_2 : decode cX10_nearest 2 = .ok (.iload_n 2, 1) := by decide +kernel
theorem dX10_nearest_3 : decode cX10_nearest 3 = .ok (.iconst 0, 1) := by decide +kernel
theorem dX10_nearest_4 : decode cX10_nearest 4 = .ok (.iload_n 3, 1) := by decide +kernel
theorem dX10_nearest_5 : decode cX10_nearest 5 = .ok (.i2l, 1) := by decide +kernel
theorem dX10_nearest_6 : decode cX10_nearest 6 = .ok (.lconst 0, 1) := by decide +kernel
theorem dX10_nearest_7 : decode cX10_nearest 7 = .ok (.lconst 1, 1) := by decide +kernel
theorem dX10_nearest_8 : decode cX10_nearest 8 = .ok (.invokestatic 91, 3) := by decide +kernel
theorem dX10_nearest_11 : decode cX10_nearest 11 = .ok (.invokevirtual 272, 3) := by decide +kernel
theorem dX10_nearest_14 : decode cX10_nearest 14 = .ok (.istore 4, 2) := by decide +kernel
theorem dX10_nearest_16 : decode cX10_nearest 16 = .ok (.iload 4, 2) := by decide +kernel
theorem dX10_nearest_18 : decode cX10_nearest 18 = .ok (.ifCond .eq 6, 3) := by decide +kernel
theorem dX10_nearest_21 : decode cX10_nearest 21 = .ok (.iload 4, 2) := by decide +kernel
theorem dX10_nearest_23 : decode cX10_nearest 23 = .ok (.ireturn, 1) := by decide +kernel
theorem dX10_nearest_24 : decode cX10_nearest 24 = .ok (.aload_n 0, 1) := by decide +kernel
theorem dX10_nearest_25 : decode cX10_nearest 25 = .ok (.getfield 88, 3) := by decide +kernel
theorem dX10_nearest_28 : decode cX10_nearest 28 = .ok (.ifCond .ne 10, 3) := by decide +kernel
theorem dX10_nearest_31 : decode cX10_nearest 31 = .ok (.aload_n 0, 1) := by decide +kernel
theorem dX10_nearest_32 : decode cX10_nearest 32 = .ok (.bipush (-5), 2) := by decide +kernel
theorem dX10_nearest_34 : decode cX10_nearest 34 = .ok (.invokevirtual 107, 3) := by decide +kernel
theorem dX10_nearest_37 : decode cX10_nearest 37 = .ok (.ireturn, 1) := by decide +kernel
theorem dX10_nearest_38 : decode cX10_nearest 38 = .ok (.aload_n 0, 1) := by decide +kernel
theorem dX10_nearest_39 : decode cX10_nearest 39 = .ok (.invokevirtual 332, 3) := by decide +kernel
theorem dX10_nearest_42 : decode cX10_nearest 42 = .ok (.istore 5, 2) := by decide +kernel
theorem dX10_nearest_44 : decode cX10_nearest 44 = .ok (.iload_n 3, 1) := by decide +kernel
theorem dX10_nearest_45 : decode cX10_nearest 45 = .ok (.ifCond .ne 8, 3) := by decide +kernel
theorem dX10_nearest_48 : decode cX10_nearest 48 = .ok (.iload 5, 2) := by decide +kernel
theorem dX10_nearest_50 : decode cX10_nearest 50 = .ok (.goto 9, 3) := by decide +kernel
theorem dX10_nearest_53 : decode cX10_nearest 53 = .ok (.aload_n 0, 1) := by decide +kernel
theorem dX10_nearest_54 : decode cX10_nearest 54 = .ok (.iload 5, 2) := by decide +kernel
theorem dX10_nearest_56 : decode cX10_nearest 56 = .ok (.invokevirtual 329, 3) := by decide +kernel
theorem dX10_nearest_59 : decode cX10_nearest 59 = .ok (.ireturn, 1) := by decide +kernel
theorem dX10_judge_0 : decode cX10_judge 0 = .ok (.iload_n 1, 1) := by decide +kernel
theorem dX10_judge_1 : decode cX10_judge 1 = .ok (.i2l, 1) := by decide +kernel
theorem dX10_judge_2 : decode cX10_judge 2 = .ok (.lconst 0, 1) := by decide +kernel
theorem dX10_judge_3 : decode cX10_judge 3 = .ok (.ldc2_w 101, 3) := by decide +kernel
theorem dX10_judge_6 : decode cX10_judge 6 = .ok (.invokestatic 91, 3) := by decide +kernel
theorem dX10_judge_9 : decode cX10_judge 9 = .ok (.ifCond .eq 15, 3) := by decide +kernel
theorem dX10_judge_12 : decode cX10_judge 12 = .ok (.iload_n 2, 1) := by decide +kernel
theorem dX10_judge_13 : decode cX10_judge 13 = .ok (.i2l, 1) := by decide +kernel
theorem dX10_judge_14 : decode cX10_judge 14 = .ok (.lconst 0, 1) := by decide +kernel
theorem dX10_judge_15 : decode cX10_judge 15 = .ok (.ldc2_w 105, 3) := by decide +kernel
theorem dX10_judge_18 : decode cX10_judge 18 = .ok (.invokestatic 91, 3) := by decide +kernel
theorem dX10_judge_21 : decode cX10_judge 21 = .ok (.ifCond .ne 10, 3) := by decide +kernel
theorem dX10_judge_24 : decode cX10_judge 24 = .ok (.aload_n 0, 1) := by decide +kernel
theorem dX10_judge_25 : decode cX10_judge 25 = .ok (.bipush (-2), 2) := by decide +kernel
theorem dX10_judge_27 : decode cX10_judge 27 = .ok (.invokevirtual 107, 3) := by decide +kernel
theorem dX10_judge_30 : decode cX10_judge 30 = .ok (.ireturn, 1) := by decide +kernel
theorem dX10_judge_31 : decode cX10_judge 31 = .ok (.aload_n 0, 1) := by decide +kernel
theorem dX10_judge_32 : decode cX10_judge 32 = .ok (.iload_n 1, 1) := by decide +kernel
theorem dX10_judge_33 : decode cX10_judge 33 = .ok (.invokevirtual 115, 3) := by decide +kernel
theorem dX10_judge_36 : decode cX10_judge 36 = .ok (.istore_n 3, 1) := by decide +kernel
theorem dX10_judge_37 : decode cX10_judge 37 = .ok (.iload_n 3, 1) := by decide +kernel
theorem dX10_judge_38 : decode cX10_judge 38 = .ok (.ifCond .eq 5, 3) := by decide +kernel
theorem dX10_judge_41 : decode cX10_judge 41 = .ok (.iload_n 3, 1) := by decide +kernel
theorem dX10_judge_42 : decode cX10_judge 42 = .ok (.ireturn, 1) := by decide +kernel
theorem dX10_judge_43 : decode cX10_judge 43 = .ok (.aload_n 0, 1) := by decide +kernel
theorem dX10_judge_44 : decode cX10_judge 44 = .ok (.getfield 16, 3) := by decide +kernel
theorem dX10_judge_47 : decode cX10_judge 47 = .ok (.iload_n 1, 1) := by decide +kernel
theorem dX10_judge_48 : decode cX10_judge 48 = .ok (.iaload, 1) := by decide +kernel
theorem dX10_judge_49 : decode cX10_judge 49 = .ok (.iload_n 2, 1) := by decide +kernel
theorem dX10_judge_50 : decode cX10_judge 50 = .ok (.if_icmp .ge 10, 3) := by decide +kernel
theorem dX10_judge_53 : decode cX10_judge 53 = .ok (.aload_n 0, 1) := by decide +kernel
theorem dX10_judge_54 : decode cX10_judge 54 = .ok (.bipush (-2), 2) := by decide +kernel
theorem dX10_judge_56 : decode cX10_judge 56 = .ok (.invokevirtual 107, 3) := by decide +kernel
theorem dX10_judge_59 : decode cX10_judge 59 = .ok (.ireturn, 1) := by decide +kernel
theorem dX10_judge_60 : decode cX10_judge 60 = .ok (.iconst 0, 1) := by decide +kernel
theorem dX10_judge_61 : decode cX10_judge 61 = .ok (.istore 4, 2) := by decide +kernel
theorem dX10_judge_63 : decode cX10_judge 63 = .ok (.iload 4, 2) := by decide +kernel
theorem dX10_judge_65 : decode cX10_judge 65 = .ok (.iload_n 2, 1) := by decide +kernel
theorem dX10_judge_66 : decode cX10_judge 66 = .ok (.if_icmp .ge 47, 3) := by decide +kernel
theorem dX10_judge_69 : decode cX10_judge 69 = .ok (.aload_n 0, 1) := by decide +kernel
theorem dX10_judge_70 : decode cX10_judge 70 = .ok (.getfield 21, 3) := by decide +kernel
theorem dX10_judge_73 : decode cX10_judge 73 = .ok (.iload_n 1, 1) := by decide +kernel
theorem dX10_judge_74 : decode cX10_judge 74 = .ok (.aaload, 1) := by decide +kernel
theorem dX10_judge_75 : decode cX10_judge 75 = .ok (.iload 4, 2) := by decide +kernel
theorem dX10_judge_77 : decode cX10_judge 77 = .ok (.laload, 1) := by decide +kernel
theorem dX10_judge_78 : decode cX10_judge 78 = .ok (.lconst 0, 1) := by decide +kernel
theorem dX10_judge_79 : decode cX10_judge 79 = .ok (.ldc2_w 103, 3) := by decide +kernel
theorem dX10_judge_82 : decode cX10_judge 82 = .ok (.invokestatic 91, 3) := by decide +kernel
theorem dX10_judge_85 : decode cX10_judge 85 = .ok (.ifCond .ne 22, 3) := by decide +kernel
theorem dX10_judge_88 : decode cX10_judge 88 = .ok (.aload_n 0, 1) := by decide +kernel
theorem dX10_judge_89 : decode cX10_judge 89 = .ok (.getfield 21, 3) := by decide +kernel
theorem dX10_judge_92 : decode cX10_judge 92 = .ok (.iload_n 1, 1) := by decide +kernel
theorem dX10_judge_93 : decode cX10_judge 93 = .ok (.aaload, 1) := by decide +kernel
theorem dX10_judge_94 : decode cX10_judge 94 = .ok (.iload 4, 2) := by decide +kernel
theorem dX10_judge_96 : decode cX10_judge 96 = .ok (.laload, 1) := by decide +kernel
theorem dX10_judge_97 : decode cX10_judge 97 = .ok (.ldc2_w 146, 3) := by decide +kernel
theorem dX10_judge_100 : decode cX10_judge 100 = .ok (.lcmp, 1) := by decide +kernel
theorem dX10_judge_101 : decode cX10_judge 101 = .ok (.ifCond .eq 6, 3) := by decide +kernel
theorem dX10_judge_104 : decode cX10_judge 104 = .ok (.iload 4, 2) := by decide +kernel
theorem dX10_judge_106 : decode cX10_judge 106 = .ok (.ireturn, 1) := by decide +kernel
theorem dX10_judge_107 : decode cX10_judge 107 = .ok (.iinc 4 1, 3) := by decide +kernel
theorem dX10_judge_110 : decode cX10_judge 110 = .ok (.goto (-47), 3) := by decide +kernel
theorem dX10_judge_113 : decode cX10_judge 113 = .ok (.iconst (-1), 1) := by decide +kernel
theorem dX10_judge_114 : decode cX10_judge 114 = .ok (.ireturn, 1) := by decide +kernel
theorem dX10_below_0 : decode cX10_below 0 = .ok (.aload_n 0, 1) := by decide +kernel
theorem dX10_below_1 : decode cX10_below 1 = .ok (.aload_n 0, 1) := by decide +kernel
theorem dX10_below_2 : decode cX10_below 2 = .ok (.getfield 70, 3) := by decide +kernel
theorem dX10_below_5 : decode cX10_below 5 = .ok (.ldc_w 335, 3) := by decide +kernel
theorem dX10_below_8 : decode cX10_below 8 = .ok (.imul, 1) := by decide +kernel
theorem dX10_below_9 : decode cX10_below 9 = .ok (.sipush 12345, 3) := by decide +kernel
theorem dX10_below_12 : decode cX10_below 12 = .ok (.iadd, 1) := by decide +kernel
theorem dX10_below_13 : decode cX10_below 13 = .ok (.putfield 70, 3) := by decide +kernel
theorem dX10_below_16 : decode cX10_below 16 = .ok (.aload_n 0, 1) := by decide +kernel
theorem dX10_below_17 : decode cX10_below 17 = .ok (.getfield 70, 3) := by decide +kernel
theorem dX10_below_20 : decode cX10_below 20 = .ok (.bipush 16, 2) := by decide +kernel
theorem dX10_below_22 : decode cX10_below 22 = .ok (.iushr, 1) := by decide +kernel
theorem dX10_below_23 : decode cX10_below 23 = .ok (.iload_n 1, 1) := by decide +kernel
theorem dX10_below_24 : decode cX10_below 24 = .ok (.irem, 1) := by decide +kernel
theorem dX10_below_25 : decode cX10_below 25 = .ok (.ireturn, 1) := by decide +kernel
theorem dX10_sounded_0 : decode cX10_sounded 0 = .ok (.iconst 0, 1) := by decide +kernel
theorem dX10_sounded_1 : decode cX10_sounded 1 = .ok (.istore_n 2, 1) := by decide +kernel
theorem dX10_sounded_2 : decode cX10_sounded 2 = .ok (.aload_n 0, 1) := by decide +kernel
theorem dX10_sounded_3 : decode cX10_sounded 3 = .ok (.aload_n 0, 1) := by decide +kernel
theorem dX10_sounded_4 : decode cX10_sounded 4 = .ok (.getfield 42, 3) := by decide +kernel
theorem dX10_sounded_7 : decode cX10_sounded 7 = .ok (.iload_n 1, 1) := by decide +kernel
theorem dX10_sounded_8 : decode cX10_sounded 8 = .ok (.iaload, 1) := by decide +kernel
theorem dX10_sounded_9 : decode cX10_sounded 9 = .ok (.putfield 262, 3) := by decide +kernel
theorem dX10_sounded_12 : decode cX10_sounded 12 = .ok (.aload_n 0, 1) := by decide +kernel
theorem dX10_sounded_13 : decode cX10_sounded 13 = .ok (.iconst 0, 1) := by decide +kernel
theorem dX10_sounded_14 : decode cX10_sounded 14 = .ok (.putfield 258, 3) := by decide +kernel
theorem dX10_sounded_17 : decode cX10_sounded 17 = .ok (.iconst 0, 1) := by decide +kernel
theorem dX10_sounded_18 : decode cX10_sounded 18 = .ok (.istore_n 3, 1) := by decide +kernel
theorem dX10_sounded_19 : decode cX10_sounded 19 = .ok (.iload_n 3, 1) := by decide +kernel
theorem dX10_sounded_20 : decode cX10_sounded 20 = .ok (.aload_n 0, 1) := by decide +kernel
theorem dX10_sounded_21 : decode cX10_sounded 21 = .ok (.getfield 262, 3) := by decide +kernel
theorem dX10_sounded_24 : decode cX10_sounded 24 = .ok (.if_icmp .ge 68, 3) := by decide +kernel
theorem dX10_sounded_27 : decode cX10_sounded 27 = .ok (.aload_n 0, 1) := by decide +kernel
theorem dX10_sounded_28 : decode cX10_sounded 28 = .ok (.bipush 100, 2) := by decide +kernel
theorem dX10_sounded_30 : decode cX10_sounded 30 = .ok (.invokevirtual 336, 3) := by decide +kernel
theorem dX10_sounded_33 : decode cX10_sounded 33 = .ok (.aload_n 0, 1) := by decide +kernel
theorem dX10_sounded_34 : decode cX10_sounded 34 = .ok (.getfield 67, 3) := by decide +kernel
theorem dX10_sounded_37 : decode cX10_sounded 37 = .ok (.if_icmp .ge 7, 3) := by decide +kernel
theorem dX10_sounded_40 : decode cX10_sounded 40 = .ok (.iconst 1, 1) := by decide +kernel
theorem dX10_sounded_41 : decode cX10_sounded 41 = .ok (.goto 4, 3) := by decide +kernel
theorem dX10_sounded_44 : decode cX10_sounded 44 = .ok (.iconst 0, 1) := by decide +kernel
theorem dX10_sounded_45 : decode cX10_sounded 45 = .ok (.istore 4, 2) := by decide +kernel
theorem dX10_sounded_47 : decode cX10_sounded 47 = .ok (.aload_n 0, 1) := by decide +kernel
theorem dX10_sounded_48 : decode cX10_sounded 48 = .ok (.getfield 76, 3) := by decide +kernel
theorem dX10_sounded_51 : decode cX10_sounded 51 = .ok (.iload_n 3, 1) := by decide +kernel
theorem dX10_sounded_52 : decode cX10_sounded 52 = .ok (.iload 4, 2) := by decide +kernel
theorem dX10_sounded_54 : decode cX10_sounded 54 = .ok (.ifCond .eq 9, 3) := by decide +kernel
theorem dX10_sounded_57 : decode cX10_sounded 57 = .ok (.ldc2_w 146, 3) := by decide +kernel
theorem dX10_sounded_60 : decode cX10_sounded 60 = .ok (.goto 12, 3) := by decide +kernel
theorem dX10_sounded_63 : decode cX10_sounded 63 = .ok (.aload_n 0, 1) := by decide +kernel
theorem dX10_sounded_64 : decode cX10_sounded 64 = .ok (.getfield 39, 3) := by decide +kernel
theorem dX10_sounded_67 : decode cX10_sounded 67 = .ok (.iload_n 1, 1) := by decide +kernel
theorem dX10_sounded_68 : decode cX10_sounded 68 = .ok (.aaload, 1) := by decide +kernel
theorem dX10_sounded_69 : decode cX10_sounded 69 = .ok (.iload_n 3, 1) := by decide +kernel
theorem dX10_sounded_70 : decode cX10_sounded 70 = .ok (.iaload, 1) := by decide +kernel
theorem dX10_sounded_71 : decode cX10_sounded 71 = .ok (.i2l, 1) := by decide +kernel
theorem dX10_sounded_72 : decode cX10_sounded 72 = .ok (.lastore, 1) := by decide +kernel
theorem dX10_sounded_73 : decode cX10_sounded 73 = .ok (.iload_n 2, 1) := by decide +kernel
theorem dX10_sounded_74 : decode cX10_sounded 74 = .ok (.iload 4, 2) := by decide +kernel
theorem dX10_sounded_76 : decode cX10_sounded 76 = .ok (.ifCond .eq 7, 3) := by decide +kernel
theorem dX10_sounded_79 : decode cX10_sounded 79 = .ok (.iconst 1, 1) := by decide +kernel
theorem dX10_sounded_80 : decode cX10_sounded 80 = .ok (.goto 4, 3) := by decide +kernel
theorem dX10_sounded_83 : decode cX10_sounded 83 = .ok (.iconst 0, 1) := by decide +kernel
theorem dX10_sounded_84 : decode cX10_sounded 84 = .ok (.iadd, 1) := by decide +kernel
theorem dX10_sounded_85 : decode cX10_sounded 85 = .ok (.istore_n 2, 1) := by decide +kernel
theorem dX10_sounded_86 : decode cX10_sounded 86 = .ok (.iinc 3 1, 3) := by decide +kernel
theorem dX10_sounded_89 : decode cX10_sounded 89 = .ok (.goto (-70), 3) := by decide +kernel
theorem dX10_sounded_92 : decode cX10_sounded 92 = .ok (.iload_n 2, 1) := by decide +kernel
theorem dX10_sounded_93 : decode cX10_sounded 93 = .ok (.ireturn, 1) := by decide +kernel
theorem dX10_sound_0 : decode cX10_sound 0 = .ok (.aload_n 0, 1) := by decide +kernel
theorem dX10_sound_1 : decode cX10_sound 1 = .ok (.iload_n 1, 1) := by decide +kernel
theorem dX10_sound_2 : decode cX10_sound 2 = .ok (.invokevirtual 155, 3) := by decide +kernel
theorem dX10_sound_5 : decode cX10_sound 5 = .ok (.ifCond .eq 15, 3) := by decide +kernel
theorem dX10_sound_8 : decode cX10_sound 8 = .ok (.iload_n 2, 1) := by decide +kernel
theorem dX10_sound_9 : decode cX10_sound 9 = .ok (.i2l, 1) := by decide +kernel
theorem dX10_sound_10 : decode cX10_sound 10 = .ok (.lconst 0, 1) := by decide +kernel
theorem dX10_sound_11 : decode cX10_sound 11 = .ok (.ldc2_w 101, 3) := by decide +kernel
theorem dX10_sound_14 : decode cX10_sound 14 = .ok (.invokestatic 91, 3) := by decide +kernel
theorem dX10_sound_17 : decode cX10_sound 17 = .ok (.ifCond .ne 10, 3) := by decide +kernel
theorem dX10_sound_20 : decode cX10_sound 20 = .ok (.aload_n 0, 1) := by decide +kernel
theorem dX10_sound_21 : decode cX10_sound 21 = .ok (.bipush (-2), 2) := by decide +kernel
theorem dX10_sound_23 : decode cX10_sound 23 = .ok (.invokevirtual 107, 3) := by decide +kernel
theorem dX10_sound_26 : decode cX10_sound 26 = .ok (.ireturn, 1) := by decide +kernel
theorem dX10_sound_27 : decode cX10_sound 27 = .ok (.aload_n 0, 1) := by decide +kernel
theorem dX10_sound_28 : decode cX10_sound 28 = .ok (.iload_n 1, 1) := by decide +kernel
theorem dX10_sound_29 : decode cX10_sound 29 = .ok (.invokevirtual 339, 3) := by decide +kernel
theorem dX10_sound_32 : decode cX10_sound 32 = .ok (.istore_n 3, 1) := by decide +kernel
theorem dX10_sound_33 : decode cX10_sound 33 = .ok (.aload_n 0, 1) := by decide +kernel
theorem dX10_sound_34 : decode cX10_sound 34 = .ok (.iload_n 2, 1) := by decide +kernel
theorem dX10_sound_35 : decode cX10_sound 35 = .ok (.iconst 0, 1) := by decide +kernel
theorem dX10_sound_36 : decode cX10_sound 36 = .ok (.aload_n 0, 1) := by decide +kernel
theorem dX10_sound_37 : decode cX10_sound 37 = .ok (.getfield 42, 3) := by decide +kernel
theorem dX10_sound_40 : decode cX10_sound 40 = .ok (.iload_n 1, 1) := by decide +kernel
theorem dX10_sound_41 : decode cX10_sound 41 = .ok (.iaload, 1) := by decide +kernel
theorem dX10_sound_42 : decode cX10_sound 42 = .ok (.invokevirtual 111, 3) := by decide +kernel
theorem dX10_sound_45 : decode cX10_sound 45 = .ok (.iconst 0, 1) := by decide +kernel
theorem dX10_sound_46 : decode cX10_sound 46 = .ok (.istore 4, 2) := by decide +kernel
theorem dX10_sound_48 : decode cX10_sound 48 = .ok (.iload 4, 2) := by decide +kernel
theorem dX10_sound_50 : decode cX10_sound 50 = .ok (.aload_n 0, 1) := by decide +kernel
theorem dX10_sound_51 : decode cX10_sound 51 = .ok (.getfield 42, 3) := by decide +kernel
theorem dX10_sound_54 : decode cX10_sound 54 = .ok (.iload_n 1, 1) := by decide +kernel
theorem dX10_sound_55 : decode cX10_sound 55 = .ok (.iaload, 1) := by decide +kernel
theorem dX10_sound_56 : decode cX10_sound 56 = .ok (.if_icmp .ge 25, 3) := by decide +kernel
theorem dX10_sound_59 : decode cX10_sound 59 = .ok (.aload_n 0, 1) := by decide +kernel
theorem dX10_sound_60 : decode cX10_sound 60 = .ok (.getfield 21, 3) := by decide +kernel
theorem dX10_sound_63 : decode cX10_sound 63 = .ok (.iload_n 2, 1) := by decide +kernel
theorem dX10_sound_64 : decode cX10_sound 64 = .ok (.aaload, 1) := by decide +kernel
theorem dX10_sound_65 : decode cX10_sound 65 = .ok (.iload 4, 2) := by decide +kernel
theorem dX10_sound_67 : decode cX10_sound 67 = .ok (.aload_n 0, 1) := by decide +kernel
theorem dX10_sound_68 : decode cX10_sound 68 = .ok (.getfield 76, 3) := by decide +kernel
theorem dX10_sound_71 : decode cX10_sound 71 = .ok (.iload 4, 2) := by decide +kernel
theorem dX10_sound_73 : decode cX10_sound 73 = .ok (.laload, 1) := by decide +kernel
theorem dX10_sound_74 : decode cX10_sound 74 = .ok (.lastore, 1) := by decide +kernel
theorem dX10_sound_75 : decode cX10_sound 75 = .ok (.iinc 4 1, 3) := by decide +kernel
theorem dX10_sound_78 : decode cX10_sound 78 = .ok (.goto (-30), 3) := by decide +kernel
theorem dX10_sound_81 : decode cX10_sound 81 = .ok (.iload_n 3, 1) := by decide +kernel
theorem dX10_sound_82 : decode cX10_sound 82 = .ok (.ireturn, 1) := by decide +kernel
theorem dX10_days_0 : decode cX10_days 0 = .ok (.iload_n 1, 1) := by decide +kernel
theorem dX10_days_1 : decode cX10_days 1 = .ok (.i2l, 1) := by decide +kernel
theorem dX10_days_2 : decode cX10_days 2 = .ok (.lconst 1, 1) := by decide +kernel
theorem dX10_days_3 : decode cX10_days 3 = .ok (.ldc2_w 141, 3) := by decide +kernel
theorem dX10_days_6 : decode cX10_days 6 = .ok (.invokestatic 91, 3) := by decide +kernel
theorem dX10_days_9 : decode cX10_days 9 = .ok (.ifCond .ne 10, 3) := by decide +kernel
theorem dX10_days_12 : decode cX10_days 12 = .ok (.aload_n 0, 1) := by decide +kernel
theorem dX10_days_13 : decode cX10_days 13 = .ok (.bipush (-2), 2) := by decide +kernel
theorem dX10_days_15 : decode cX10_days 15 = .ok (.invokevirtual 107, 3) := by decide +kernel
theorem dX10_days_18 : decode cX10_days 18 = .ok (.ireturn, 1) := by decide +kernel
theorem dX10_days_19 : decode cX10_days 19 = .ok (.aload_n 0, 1) := by decide +kernel
theorem dX10_days_20 : decode cX10_days 20 = .ok (.getfield 88, 3) := by decide +kernel
theorem dX10_days_23 : decode cX10_days 23 = .ok (.ifCond .ne 10, 3) := by decide +kernel
theorem dX10_days_26 : decode cX10_days 26 = .ok (.aload_n 0, 1) := by decide +kernel
theorem dX10_days_27 : decode cX10_days 27 = .ok (.bipush (-5), 2) := by decide +kernel
theorem dX10_days_29 : decode cX10_days 29 = .ok (.invokevirtual 107, 3) := by decide +kernel
theorem dX10_days_32 : decode cX10_days 32 = .ok (.ireturn, 1) := by decide +kernel
theorem dX10_days_33 : decode cX10_days 33 = .ok (.iconst 0, 1) := by decide +kernel
theorem dX10_days_34 : decode cX10_days 34 = .ok (.istore_n 2, 1) := by decide +kernel
theorem dX10_days_35 : decode cX10_days 35 = .ok (.iconst 0, 1) := by decide +kernel
theorem dX10_days_36 : decode cX10_days 36 = .ok (.istore_n 3, 1) := by decide +kernel
theorem dX10_days_37 : decode cX10_days 37 = .ok (.iload_n 3, 1) := by decide +kernel
theorem dX10_days_38 : decode cX10_days 38 = .ok (.iload_n 1, 1) := by decide +kernel
theorem dX10_days_39 : decode cX10_days 39 = .ok (.if_icmp .ge 43, 3) := by decide +kernel
theorem dX10_days_42 : decode cX10_days 42 = .ok (.aload_n 0, 1) := by decide +kernel
theorem dX10_days_43 : decode cX10_days 43 = .ok (.aload_n 0, 1) := by decide +kernel
theorem dX10_days_44 : decode cX10_days 44 = .ok (.getfield 88, 3) := by decide +kernel
theorem dX10_days_47 : decode cX10_days 47 = .ok (.invokevirtual 336, 3) := by decide +kernel
theorem dX10_days_50 : decode cX10_days 50 = .ok (.istore 4, 2) := by decide +kernel
theorem dX10_days_52 : decode cX10_days 52 = .ok (.aload_n 0, 1) := by decide +kernel
theorem dX10_days_53 : decode cX10_days 53 = .ok (.iload 4, 2) := by decide +kernel
theorem dX10_days_55 : decode cX10_days 55 = .ok (.invokevirtual 339, 3) := by decide +kernel
theorem dX10_days_58 : decode cX10_days 58 = .ok (.pop, 1) := by decide +kernel
theorem dX10_days_59 : decode cX10_days 59 = .ok (.iload_n 2, 1) := by decide +kernel
theorem dX10_days_60 : decode cX10_days 60 = .ok (.aload_n 0, 1) := by decide +kernel
theorem dX10_days_61 : decode cX10_days 61 = .ok (.invokevirtual 332, 3) := by decide +kernel
theorem dX10_days_64 : decode cX10_days 64 = .ok (.iload 4, 2) := by decide +kernel
theorem dX10_days_66 : decode cX10_days 66 = .ok (.if_icmp .eq 7, 3) := by decide +kernel
theorem dX10_days_69 : decode cX10_days 69 = .ok (.iconst 1, 1) := by decide +kernel
theorem dX10_days_70 : decode cX10_days 70 = .ok (.goto 4, 3) := by decide +kernel
theorem dX10_days_73 : decode cX10_days 73 = .ok (.iconst 0, 1) := by decide +kernel
theorem dX10_days_74 : decode cX10_days 74 = .ok (.iadd, 1) := by decide +kernel
theorem dX10_days_75 : decode cX10_days 75 = .ok (.istore_n 2, 1) := by decide +kernel
theorem dX10_days_76 : decode cX10_days 76 = .ok (.iinc 3 1, 3) := by decide +kernel
theorem dX10_days_79 : decode cX10_days 79 = .ok (.goto (-42), 3) := by decide +kernel
theorem dX10_days_82 : decode cX10_days 82 = .ok (.iload_n 2, 1) := by decide +kernel
theorem dX10_days_83 : decode cX10_days 83 = .ok (.ireturn, 1) := by decide +kernel
theorem dX10_drop_0 : decode cX10_drop 0 = .ok (.aload_n 0, 1) := by decide +kernel
theorem dX10_drop_1 : decode cX10_drop 1 = .ok (.getfield 88, 3) := by decide +kernel
theorem dX10_drop_4 : decode cX10_drop 4 = .ok (.ifCond .ne 10, 3) := by decide +kernel
theorem dX10_drop_7 : decode cX10_drop 7 = .ok (.aload_n 0, 1) := by decide +kernel
theorem dX10_drop_8 : decode cX10_drop 8 = .ok (.bipush (-5), 2) := by decide +kernel
theorem dX10_drop_10 : decode cX10_drop 10 = .ok (.invokevirtual 107, 3) := by decide +kernel
theorem dX10_drop_13 : decode cX10_drop 13 = .ok (.ireturn, 1) := by decide +kernel
theorem dX10_drop_14 : decode cX10_drop 14 = .ok (.aload_n 0, 1) := by decide +kernel
theorem dX10_drop_15 : decode cX10_drop 15 = .ok (.dup, 1) := by decide +kernel
theorem dX10_drop_16 : decode cX10_drop 16 = .ok (.getfield 88, 3) := by decide +kernel
theorem dX10_drop_19 : decode cX10_drop 19 = .ok (.iconst 1, 1) := by decide +kernel
theorem dX10_drop_20 : decode cX10_drop 20 = .ok (.isub, 1) := by decide +kernel
theorem dX10_drop_21 : decode cX10_drop 21 = .ok (.putfield 88, 3) := by decide +kernel
theorem dX10_drop_24 : decode cX10_drop 24 = .ok (.aload_n 0, 1) := by decide +kernel
theorem dX10_drop_25 : decode cX10_drop 25 = .ok (.getfield 88, 3) := by decide +kernel
theorem dX10_drop_28 : decode cX10_drop 28 = .ok (.ireturn, 1) := by decide +kernel
theorem dX10_seed_0 : decode cX10_seed 0 = .ok (.aload_n 0, 1) := by decide +kernel
theorem dX10_seed_1 : decode cX10_seed 1 = .ok (.getfield 70, 3) := by decide +kernel
theorem dX10_seed_4 : decode cX10_seed 4 = .ok (.istore_n 2, 1) := by decide +kernel
theorem dX10_seed_5 : decode cX10_seed 5 = .ok (.aload_n 0, 1) := by decide +kernel
theorem dX10_seed_6 : decode cX10_seed 6 = .ok (.iload_n 1, 1) := by decide +kernel
theorem dX10_seed_7 : decode cX10_seed 7 = .ok (.putfield 70, 3) := by decide +kernel
theorem dX10_seed_10 : decode cX10_seed 10 = .ok (.iload_n 2, 1) := by decide +kernel
theorem dX10_seed_11 : decode cX10_seed 11 = .ok (.ireturn, 1) := by decide +kernel
theorem dX10_copied_0 : decode cX10_copied 0 = .ok (.iconst 0, 1) := by decide +kernel
theorem dX10_copied_1 : decode cX10_copied 1 = .ok (.istore_n 2, 1) := by decide +kernel
theorem dX10_copied_2 : decode cX10_copied 2 = .ok (.iload_n 2, 1) := by decide +kernel
theorem dX10_copied_3 : decode cX10_copied 3 = .ok (.aload_n 0, 1) := by decide +kernel
theorem dX10_copied_4 : decode cX10_copied 4 = .ok (.arraylength, 1) := by decide +kernel
theorem dX10_copied_5 : decode cX10_copied 5 = .ok (.if_icmp .ge 15, 3) := by decide +kernel
theorem dX10_copied_8 : decode cX10_copied 8 = .ok (.aload_n 1, 1) := by decide +kernel
theorem dX10_copied_9 : decode cX10_copied 9 = .ok (.iload_n 2, 1) := by decide +kernel
theorem dX10_copied_10 : decode cX10_copied 10 = .ok (.aload_n 0, 1) := by decide +kernel
theorem dX10_copied_11 : decode cX10_copied 11 = .ok (.iload_n 2, 1) := by decide +kernel
theorem dX10_copied_12 : decode cX10_copied 12 = .ok (.iaload, 1) := by decide +kernel
theorem dX10_copied_13 : decode cX10_copied 13 = .ok (.iastore, 1) := by decide +kernel
theorem dX10_copied_14 : decode cX10_copied 14 = .ok (.iinc 2 1, 3) := by decide +kernel
theorem dX10_copied_17 : decode cX10_copied 17 = .ok (.goto (-15), 3) := by decide +kernel
theorem dX10_copied_20 : decode cX10_copied 20 = .ok (.return_, 1) := by decide +kernel
theorem dX10_takeFrom_0 : decode cX10_takeFrom 0 = .ok (.aload_n 0, 1) := by decide +kernel
theorem dX10_takeFrom_1 : decode cX10_takeFrom 1 = .ok (.aload_n 1, 1) := by decide +kernel
theorem dX10_takeFrom_2 : decode cX10_takeFrom 2 = .ok (.getfield 88, 3) := by decide +kernel
theorem dX10_takeFrom_5 : decode cX10_takeFrom 5 = .ok (.putfield 88, 3) := by decide +kernel
theorem dX10_takeFrom_8 : decode cX10_takeFrom 8 = .ok (.iconst 0, 1) := by decide +kernel
theorem dX10_takeFrom_9 : decode cX10_takeFrom 9 = .ok (.istore_n 2, 1) := by decide +kernel
theorem dX10_takeFrom_10 : decode cX10_takeFrom 10 = .ok (.iload_n 2, 1) := by decide +kernel
theorem dX10_takeFrom_11 : decode cX10_takeFrom 11 = .ok (.bipush 12, 2) := by decide +kernel
theorem dX10_takeFrom_13 : decode cX10_takeFrom 13 = .ok (.if_icmp .ge 24, 3) := by decide +kernel
theorem dX10_takeFrom_16 : decode cX10_takeFrom 16 = .ok (.aload_n 1, 1) := by decide +kernel
theorem dX10_takeFrom_17 : decode cX10_takeFrom 17 = .ok (.getfield 39, 3) := by decide +kernel
theorem dX10_takeFrom_20 : decode cX10_takeFrom 20 = .ok (.iload_n 2, 1) := by decide +kernel
theorem dX10_takeFrom_21 : decode cX10_takeFrom 21 = .ok (.aaload, 1) := by decide +kernel
theorem dX10_takeFrom_22 : decode cX10_takeFrom 22 = .ok (.aload_n 0, 1) := by decide +kernel
theorem dX10_takeFrom_23 : decode cX10_takeFrom 23 = .ok (.getfield 39, 3) := by decide +kernel
theorem dX10_takeFrom_26 : decode cX10_takeFrom 26 = .ok (.iload_n 2, 1) := by decide +kernel
theorem dX10_takeFrom_27 : decode cX10_takeFrom 27 = .ok (.aaload, 1) := by decide +kernel
theorem dX10_takeFrom_28 : decode cX10_takeFrom 28 = .ok (.invokestatic 342, 3) := by decide +kernel
theorem dX10_takeFrom_31 : decode cX10_takeFrom 31 = .ok (.iinc 2 1, 3) := by decide +kernel
theorem dX10_takeFrom_34 : decode cX10_takeFrom 34 = .ok (.goto (-24), 3) := by decide +kernel
theorem dX10_takeFrom_37 : decode cX10_takeFrom 37 = .ok (.aload_n 1, 1) := by decide +kernel
theorem dX10_takeFrom_38 : decode cX10_takeFrom 38 = .ok (.getfield 42, 3) := by decide +kernel
theorem dX10_takeFrom_41 : decode cX10_takeFrom 41 = .ok (.aload_n 0, 1) := by decide +kernel
theorem dX10_takeFrom_42 : decode cX10_takeFrom 42 = .ok (.getfield 42, 3) := by decide +kernel
theorem dX10_takeFrom_45 : decode cX10_takeFrom 45 = .ok (.invokestatic 342, 3) := by decide +kernel
theorem dX10_takeFrom_48 : decode cX10_takeFrom 48 = .ok (.aload_n 1, 1) := by decide +kernel
theorem dX10_takeFrom_49 : decode cX10_takeFrom 49 = .ok (.getfield 45, 3) := by decide +kernel
theorem dX10_takeFrom_52 : decode cX10_takeFrom 52 = .ok (.aload_n 0, 1) := by decide +kernel
theorem dX10_takeFrom_53 : decode cX10_takeFrom 53 = .ok (.getfield 45, 3) := by decide +kernel
theorem dX10_takeFrom_56 : decode cX10_takeFrom 56 = .ok (.invokestatic 342, 3) := by decide +kernel
theorem dX10_takeFrom_59 : decode cX10_takeFrom 59 = .ok (.aload_n 1, 1) := by decide +kernel
theorem dX10_takeFrom_60 : decode cX10_takeFrom 60 = .ok (.getfield 48, 3) := by decide +kernel
theorem dX10_takeFrom_63 : decode cX10_takeFrom 63 = .ok (.aload_n 0, 1) := by decide +kernel
theorem dX10_takeFrom_64 : decode cX10_takeFrom 64 = .ok (.getfield 48, 3) := by decide +kernel
theorem dX10_takeFrom_67 : decode cX10_takeFrom 67 = .ok (.invokestatic 342, 3) := by decide +kernel
theorem dX10_takeFrom_70 : decode cX10_takeFrom 70 = .ok (.aload_n 0, 1) := by decide +kernel
theorem dX10_takeFrom_71 : decode cX10_takeFrom 71 = .ok (.aload_n 1, 1) := by decide +kernel
theorem dX10_takeFrom_72 : decode cX10_takeFrom 72 = .ok (.getfield 95, 3) := by decide +kernel
theorem dX10_takeFrom_75 : decode cX10_takeFrom 75 = .ok (.putfield 95, 3) := by decide +kernel
theorem dX10_takeFrom_78 : decode cX10_takeFrom 78 = .ok (.aload_n 1, 1) := by decide +kernel
theorem dX10_takeFrom_79 : decode cX10_takeFrom 79 = .ok (.getfield 51, 3) := by decide +kernel
theorem dX10_takeFrom_82 : decode cX10_takeFrom 82 = .ok (.aload_n 0, 1) := by decide +kernel
theorem dX10_takeFrom_83 : decode cX10_takeFrom 83 = .ok (.getfield 51, 3) := by decide +kernel
theorem dX10_takeFrom_86 : decode cX10_takeFrom 86 = .ok (.invokestatic 342, 3) := by decide +kernel
theorem dX10_takeFrom_89 : decode cX10_takeFrom 89 = .ok (.aload_n 1, 1) := by decide +kernel
theorem dX10_takeFrom_90 : decode cX10_takeFrom 90 = .ok (.getfield 54, 3) := by decide +kernel
theorem dX10_takeFrom_93 : decode cX10_takeFrom 93 = .ok (.aload_n 0, 1) := by decide +kernel
theorem dX10_takeFrom_94 : decode cX10_takeFrom 94 = .ok (.getfield 54, 3) := by decide +kernel
theorem dX10_takeFrom_97 : decode cX10_takeFrom 97 = .ok (.invokestatic 342, 3) := by decide +kernel
theorem dX10_takeFrom_100 : decode cX10_takeFrom 100 = .ok (.aload_n 0, 1) := by decide +kernel
theorem dX10_takeFrom_101 : decode cX10_takeFrom 101 = .ok (.aload_n 1, 1) := by decide +kernel
theorem dX10_takeFrom_102 : decode cX10_takeFrom 102 = .ok (.getfield 98, 3) := by decide +kernel
theorem dX10_takeFrom_105 : decode cX10_takeFrom 105 = .ok (.putfield 98, 3) := by decide +kernel
theorem dX10_takeFrom_108 : decode cX10_takeFrom 108 = .ok (.aload_n 1, 1) := by decide +kernel
theorem dX10_takeFrom_109 : decode cX10_takeFrom 109 = .ok (.getfield 57, 3) := by decide +kernel
theorem dX10_takeFrom_112 : decode cX10_takeFrom 112 = .ok (.aload_n 0, 1) := by decide +kernel
theorem dX10_takeFrom_113 : decode cX10_takeFrom 113 = .ok (.getfield 57, 3) := by decide +kernel
theorem dX10_takeFrom_116 : decode cX10_takeFrom 116 = .ok (.invokestatic 342, 3) := by decide +kernel
theorem dX10_takeFrom_119 : decode cX10_takeFrom 119 = .ok (.aload_n 1, 1) := by decide +kernel
theorem dX10_takeFrom_120 : decode cX10_takeFrom 120 = .ok (.getfield 60, 3) := by decide +kernel
theorem dX10_takeFrom_123 : decode cX10_takeFrom 123 = .ok (.aload_n 0, 1) := by decide +kernel
theorem dX10_takeFrom_124 : decode cX10_takeFrom 124 = .ok (.getfield 60, 3) := by decide +kernel
theorem dX10_takeFrom_127 : decode cX10_takeFrom 127 = .ok (.invokestatic 342, 3) := by decide +kernel
theorem dX10_takeFrom_130 : decode cX10_takeFrom 130 = .ok (.aload_n 0, 1) := by decide +kernel
theorem dX10_takeFrom_131 : decode cX10_takeFrom 131 = .ok (.aload_n 1, 1) := by decide +kernel
theorem dX10_takeFrom_132 : decode cX10_takeFrom 132 = .ok (.getfield 63, 3) := by decide +kernel
theorem dX10_takeFrom_135 : decode cX10_takeFrom 135 = .ok (.putfield 63, 3) := by decide +kernel
theorem dX10_takeFrom_138 : decode cX10_takeFrom 138 = .ok (.aload_n 0, 1) := by decide +kernel
theorem dX10_takeFrom_139 : decode cX10_takeFrom 139 = .ok (.aload_n 1, 1) := by decide +kernel
theorem dX10_takeFrom_140 : decode cX10_takeFrom 140 = .ok (.getfield 67, 3) := by decide +kernel
theorem dX10_takeFrom_143 : decode cX10_takeFrom 143 = .ok (.putfield 67, 3) := by decide +kernel
theorem dX10_takeFrom_146 : decode cX10_takeFrom 146 = .ok (.aload_n 0, 1) := by decide +kernel
theorem dX10_takeFrom_147 : decode cX10_takeFrom 147 = .ok (.aload_n 1, 1) := by decide +kernel
theorem dX10_takeFrom_148 : decode cX10_takeFrom 148 = .ok (.getfield 70, 3) := by decide +kernel
theorem dX10_takeFrom_151 : decode cX10_takeFrom 151 = .ok (.putfield 70, 3) := by decide +kernel
theorem dX10_takeFrom_154 : decode cX10_takeFrom 154 = .ok (.return_, 1) := by decide +kernel
theorem dX10_image_0 : decode cX10_image 0 = .ok (.aload_n 0, 1) := by decide +kernel
theorem dX10_image_1 : decode cX10_image 1 = .ok (.getfield 346, 3) := by decide +kernel
theorem dX10_image_4 : decode cX10_image 4 = .ok (.ifnonnull 14, 3) := by decide +kernel
theorem dX10_image_7 : decode cX10_image 7 = .ok (.aload_n 0, 1) := by decide +kernel
theorem dX10_image_8 : decode cX10_image 8 = .ok (.new 8, 3) := by decide +kernel
theorem dX10_image_11 : decode cX10_image 11 = .ok (.dup, 1) := by decide +kernel
theorem dX10_image_12 : decode cX10_image 12 = .ok (.invokespecial 237, 3) := by decide +kernel
theorem dX10_image_15 : decode cX10_image 15 = .ok (.putfield 346, 3) := by decide +kernel
theorem dX10_image_18 : decode cX10_image 18 = .ok (.aload_n 0, 1) := by decide +kernel
theorem dX10_image_19 : decode cX10_image 19 = .ok (.getfield 346, 3) := by decide +kernel
theorem dX10_image_22 : decode cX10_image 22 = .ok (.aload_n 0, 1) := by decide +kernel
theorem dX10_image_23 : decode cX10_image 23 = .ok (.invokevirtual 238, 3) := by decide +kernel
theorem dX10_image_26 : decode cX10_image 26 = .ok (.iconst 1, 1) := by decide +kernel
theorem dX10_image_27 : decode cX10_image 27 = .ok (.ireturn, 1) := by decide +kernel
theorem dX10_back_0 : decode cX10_back 0 = .ok (.aload_n 0, 1) := by decide +kernel
theorem dX10_back_1 : decode cX10_back 1 = .ok (.getfield 346, 3) := by decide +kernel
theorem dX10_back_4 : decode cX10_back 4 = .ok (.ifnonnull 10, 3) := by decide +kernel
theorem dX10_back_7 : decode cX10_back 7 = .ok (.aload_n 0, 1) := by decide +kernel
theorem dX10_back_8 : decode cX10_back 8 = .ok (.bipush (-5), 2) := by decide +kernel
theorem dX10_back_10 : decode cX10_back 10 = .ok (.invokevirtual 107, 3) := by decide +kernel
theorem dX10_back_13 : decode cX10_back 13 = .ok (.ireturn, 1) := by decide +kernel
theorem dX10_back_14 : decode cX10_back 14 = .ok (.aload_n 0, 1) := by decide +kernel
theorem dX10_back_15 : decode cX10_back 15 = .ok (.aload_n 0, 1) := by decide +kernel
theorem dX10_back_16 : decode cX10_back 16 = .ok (.getfield 346, 3) := by decide +kernel
theorem dX10_back_19 : decode cX10_back 19 = .ok (.invokevirtual 238, 3) := by decide +kernel
theorem dX10_back_22 : decode cX10_back 22 = .ok (.iconst 0, 1) := by decide +kernel
theorem dX10_back_23 : decode cX10_back 23 = .ok (.istore_n 1, 1) := by decide +kernel
theorem dX10_back_24 : decode cX10_back 24 = .ok (.iload_n 1, 1) := by decide +kernel
theorem dX10_back_25 : decode cX10_back 25 = .ok (.bipush 8, 2) := by decide +kernel
theorem dX10_back_27 : decode cX10_back 27 = .ok (.if_icmp .ge 39, 3) := by decide +kernel
theorem dX10_back_30 : decode cX10_back 30 = .ok (.aload_n 0, 1) := by decide +kernel
theorem dX10_back_31 : decode cX10_back 31 = .ok (.getfield 7, 3) := by decide +kernel
theorem dX10_back_34 : decode cX10_back 34 = .ok (.iload_n 1, 1) := by decide +kernel
theorem dX10_back_35 : decode cX10_back 35 = .ok (.iaload, 1) := by decide +kernel
theorem dX10_back_36 : decode cX10_back 36 = .ok (.iconst 2, 1) := by decide +kernel
theorem dX10_back_37 : decode cX10_back 37 = .ok (.if_icmp .ne 23, 3) := by decide +kernel
theorem dX10_back_40 : decode cX10_back 40 = .ok (.aload_n 0, 1) := by decide +kernel
theorem dX10_back_41 : decode cX10_back 41 = .ok (.getfield 28, 3) := by decide +kernel
theorem dX10_back_44 : decode cX10_back 44 = .ok (.iload_n 1, 1) := by decide +kernel
theorem dX10_back_45 : decode cX10_back 45 = .ok (.iaload, 1) := by decide +kernel
theorem dX10_back_46 : decode cX10_back 46 = .ok (.aload_n 0, 1) := by decide +kernel
theorem dX10_back_47 : decode cX10_back 47 = .ok (.getfield 95, 3) := by decide +kernel
theorem dX10_back_50 : decode cX10_back 50 = .ok (.if_icmp .lt 10, 3) := by decide +kernel
theorem dX10_back_53 : decode cX10_back 53 = .ok (.aload_n 0, 1) := by decide +kernel
theorem dX10_back_54 : decode cX10_back 54 = .ok (.getfield 7, 3) := by decide +kernel
theorem dX10_back_57 : decode cX10_back 57 = .ok (.iload_n 1, 1) := by decide +kernel
theorem dX10_back_58 : decode cX10_back 58 = .ok (.iconst 0, 1) := by decide +kernel
theorem dX10_back_59 : decode cX10_back 59 = .ok (.iastore, 1) := by decide +kernel
theorem dX10_back_60 : decode cX10_back 60 = .ok (.iinc 1 1, 3) := by decide +kernel
theorem dX10_back_63 : decode cX10_back 63 = .ok (.goto (-39), 3) := by decide +kernel
theorem dX10_back_66 : decode cX10_back 66 = .ok (.iconst 1, 1) := by decide +kernel
theorem dX10_back_67 : decode cX10_back 67 = .ok (.ireturn, 1) := by decide +kernel
theorem dX10_sumOf_0 : decode cX10_sumOf 0 = .ok (.iconst 0, 1) := by decide +kernel
theorem dX10_sumOf_1 : decode cX10_sumOf 1 = .ok (.istore_n 2, 1) := by decide +kernel
theorem dX10_sumOf_2 : decode cX10_sumOf 2 = .ok (.iconst 0, 1) := by decide +kernel
theorem dX10_sumOf_3 : decode cX10_sumOf 3 = .ok (.istore_n 3, 1) := by decide +kernel
theorem dX10_sumOf_4 : decode cX10_sumOf 4 = .ok (.iload_n 3, 1) := by decide +kernel
theorem dX10_sumOf_5 : decode cX10_sumOf 5 = .ok (.iload_n 1, 1) := by decide +kernel
theorem dX10_sumOf_6 : decode cX10_sumOf 6 = .ok (.if_icmp .ge 15, 3) := by decide +kernel
theorem dX10_sumOf_9 : decode cX10_sumOf 9 = .ok (.iload_n 2, 1) := by decide +kernel
theorem dX10_sumOf_10 : decode cX10_sumOf 10 = .ok (.aload_n 0, 1) := by decide +kernel
theorem dX10_sumOf_11 : decode cX10_sumOf 11 = .ok (.iload_n 3, 1) := by decide +kernel
theorem dX10_sumOf_12 : decode cX10_sumOf 12 = .ok (.iaload, 1) := by decide +kernel
theorem dX10_sumOf_13 : decode cX10_sumOf 13 = .ok (.iadd, 1) := by decide +kernel
theorem dX10_sumOf_14 : decode cX10_sumOf 14 = .ok (.istore_n 2, 1) := by decide +kernel
theorem dX10_sumOf_15 : decode cX10_sumOf 15 = .ok (.iinc 3 1, 3) := by decide +kernel
theorem dX10_sumOf_18 : decode cX10_sumOf 18 = .ok (.goto (-14), 3) := by decide +kernel
theorem dX10_sumOf_21 : decode cX10_sumOf 21 = .ok (.iload_n 2, 1) := by decide +kernel
theorem dX10_sumOf_22 : decode cX10_sumOf 22 = .ok (.ireturn, 1) := by decide +kernel
theorem dX10_status_0 : decode cX10_status 0 = .ok (.iconst 0, 1) := by decide +kernel
theorem dX10_status_1 : decode cX10_status 1 = .ok (.istore_n 2, 1) := by decide +kernel
theorem dX10_status_2 : decode cX10_status 2 = .ok (.iload_n 1, 1) := by decide +kernel
theorem dX10_status_3 : decode cX10_status 3 = .ok (.tableswitch 154 0 10 #[57, 62, 67, 72, 84, 89, 94, 99, 104, 109, 142], 57) := by decide +kernel
theorem dX10_status_60 : decode cX10_status 60 = .ok (.aload_n 0, 1) := by decide +kernel
theorem dX10_status_61 : decode cX10_status 61 = .ok (.getfield 88, 3) := by decide +kernel
theorem dX10_status_64 : decode cX10_status 64 = .ok (.ireturn, 1) := by decide +kernel
theorem dX10_status_65 : decode cX10_status 65 = .ok (.aload_n 0, 1) := by decide +kernel
theorem dX10_status_66 : decode cX10_status 66 = .ok (.getfield 95, 3) := by decide +kernel
theorem dX10_status_69 : decode cX10_status 69 = .ok (.ireturn, 1) := by decide +kernel
theorem dX10_status_70 : decode cX10_status 70 = .ok (.aload_n 0, 1) := by decide +kernel
theorem dX10_status_71 : decode cX10_status 71 = .ok (.getfield 98, 3) := by decide +kernel
theorem dX10_status_74 : decode cX10_status 74 = .ok (.ireturn, 1) := by decide +kernel
theorem dX10_status_75 : decode cX10_status 75 = .ok (.aload_n 0, 1) := by decide +kernel
theorem dX10_status_76 : decode cX10_status 76 = .ok (.getfield 42, 3) := by decide +kernel
theorem dX10_status_79 : decode cX10_status 79 = .ok (.aload_n 0, 1) := by decide +kernel
theorem dX10_status_80 : decode cX10_status 80 = .ok (.getfield 88, 3) := by decide +kernel
theorem dX10_status_83 : decode cX10_status 83 = .ok (.invokestatic 349, 3) := by decide +kernel
theorem dX10_status_86 : decode cX10_status 86 = .ok (.ireturn, 1) := by decide +kernel
theorem dX10_status_87 : decode cX10_status 87 = .ok (.aload_n 0, 1) := by decide +kernel
theorem dX10_status_88 : decode cX10_status 88 = .ok (.invokevirtual 298, 3) := by decide +kernel
theorem dX10_status_91 : decode cX10_status 91 = .ok (.ireturn, 1) := by decide +kernel
theorem dX10_status_92 : decode cX10_status 92 = .ok (.aload_n 0, 1) := by decide +kernel
theorem dX10_status_93 : decode cX10_status 93 = .ok (.getfield 63, 3) := by decide +kernel
theorem dX10_status_96 : decode cX10_status 96 = .ok (.ireturn, 1) := by decide +kernel
theorem dX10_status_97 : decode cX10_status 97 = .ok (.aload_n 0, 1) := by decide +kernel
theorem dX10_status_98 : decode cX10_status 98 = .ok (.getfield 67, 3) := by decide +kernel
theorem dX10_status_101 : decode cX10_status 101 = .ok (.ireturn, 1) := by decide +kernel
theorem dX10_status_102 : decode cX10_status 102 = .ok (.aload_n 0, 1) := by decide +kernel
theorem dX10_status_103 : decode cX10_status 103 = .ok (.getfield 164, 3) := by decide +kernel
theorem dX10_status_106 : decode cX10_status 106 = .ok (.ireturn, 1) := by decide +kernel
theorem dX10_status_107 : decode cX10_status 107 = .ok (.aload_n 0, 1) := by decide +kernel
theorem dX10_status_108 : decode cX10_status 108 = .ok (.getfield 70, 3) := by decide +kernel
theorem dX10_status_111 : decode cX10_status 111 = .ok (.ireturn, 1) := by decide +kernel
theorem dX10_status_112 : decode cX10_status 112 = .ok (.iconst 0, 1) := by decide +kernel
theorem dX10_status_113 : decode cX10_status 113 = .ok (.istore_n 3, 1) := by decide +kernel
theorem dX10_status_114 : decode cX10_status 114 = .ok (.iload_n 3, 1) := by decide +kernel
theorem dX10_status_115 : decode cX10_status 115 = .ok (.bipush 8, 2) := by decide +kernel
theorem dX10_status_117 : decode cX10_status 117 = .ok (.if_icmp .ge 26, 3) := by decide +kernel
theorem dX10_status_120 : decode cX10_status 120 = .ok (.iload_n 2, 1) := by decide +kernel
theorem dX10_status_121 : decode cX10_status 121 = .ok (.aload_n 0, 1) := by decide +kernel
theorem dX10_status_122 : decode cX10_status 122 = .ok (.getfield 7, 3) := by decide +kernel
theorem dX10_status_125 : decode cX10_status 125 = .ok (.iload_n 3, 1) := by decide +kernel
theorem dX10_status_126 : decode cX10_status 126 = .ok (.iaload, 1) := by decide +kernel
theorem dX10_status_127 : decode cX10_status 127 = .ok (.ifCond .eq 7, 3) := by decide +kernel
theorem dX10_status_130 : decode cX10_status 130 = .ok (.iconst 1, 1) := by decide +kernel
theorem dX10_status_131 : decode cX10_status 131 = .ok (.goto 4, 3) := by decide +kernel
theorem dX10_status_134 : decode cX10_status 134 = .ok (.iconst 0, 1) := by decide +kernel
theorem dX10_status_135 : decode cX10_status 135 = .ok (.iadd, 1) := by decide +kernel
theorem dX10_status_136 : decode cX10_status 136 = .ok (.istore_n 2, 1) := by decide +kernel
theorem dX10_status_137 : decode cX10_status 137 = .ok (.iinc 3 1, 3) := by decide +kernel
theorem dX10_status_140 : decode cX10_status 140 = .ok (.goto (-26), 3) := by decide +kernel
theorem dX10_status_143 : decode cX10_status 143 = .ok (.iload_n 2, 1) := by decide +kernel
theorem dX10_status_144 : decode cX10_status 144 = .ok (.ireturn, 1) := by decide +kernel
theorem dX10_status_145 : decode cX10_status 145 = .ok (.aload_n 0, 1) := by decide +kernel
theorem dX10_status_146 : decode cX10_status 146 = .ok (.getfield 60, 3) := by decide +kernel
theorem dX10_status_149 : decode cX10_status 149 = .ok (.aload_n 0, 1) := by decide +kernel
theorem dX10_status_150 : decode cX10_status 150 = .ok (.getfield 98, 3) := by decide +kernel
theorem dX10_status_153 : decode cX10_status 153 = .ok (.invokestatic 349, 3) := by decide +kernel
theorem dX10_status_156 : decode cX10_status 156 = .ok (.ireturn, 1) := by decide +kernel
theorem dX10_status_157 : decode cX10_status 157 = .ok (.iload_n 1, 1) := by decide +kernel
theorem dX10_status_158 : decode cX10_status 158 = .ok (.i2l, 1) := by decide +kernel
theorem dX10_status_159 : decode cX10_status 159 = .ok (.ldc2_w 353, 3) := by decide +kernel
theorem dX10_status_162 : decode cX10_status 162 = .ok (.ldc2_w 355, 3) := by decide +kernel
theorem dX10_status_165 : decode cX10_status 165 = .ok (.invokestatic 91, 3) := by decide +kernel
theorem dX10_status_168 : decode cX10_status 168 = .ok (.ifCond .eq 15, 3) := by decide +kernel
theorem dX10_status_171 : decode cX10_status 171 = .ok (.aload_n 0, 1) := by decide +kernel
theorem dX10_status_172 : decode cX10_status 172 = .ok (.getfield 34, 3) := by decide +kernel
theorem dX10_status_175 : decode cX10_status 175 = .ok (.iload_n 1, 1) := by decide +kernel
theorem dX10_status_176 : decode cX10_status 176 = .ok (.bipush 10, 2) := by decide +kernel
theorem dX10_status_178 : decode cX10_status 178 = .ok (.isub, 1) := by decide +kernel
theorem dX10_status_179 : decode cX10_status 179 = .ok (.iaload, 1) := by decide +kernel
theorem dX10_status_180 : decode cX10_status 180 = .ok (.goto 4, 3) := by decide +kernel
theorem dX10_status_183 : decode cX10_status 183 = .ok (.iconst (-1), 1) := by decide +kernel
theorem dX10_status_184 : decode cX10_status 184 = .ok (.ireturn, 1) := by decide +kernel
