theorem dX0_init_0 : decode cX0_init 0 = .ok (.aload_n 0, 1) := by decide +kernel
theorem dX0_init_1 : decode cX0_init 1 = .ok (.invokespecial 3, 3) := by decide +kernel
theorem dX0_init_4 : decode cX0_init 4 = .ok (.aload_n 0, 1) := by decide +kernel
theorem dX0_init_5 : decode cX0_init 5 = .ok (.bipush 12, 2) := by decide +kernel
theorem dX0_init_7 : decode cX0_init 7 = .ok (.newarray .int, 2) := by decide +kernel
theorem dX0_init_9 : decode cX0_init 9 = .ok (.putfield 11, 3) := by decide +kernel
theorem dX0_init_12 : decode cX0_init 12 = .ok (.aload_n 0, 1) := by decide +kernel
theorem dX0_init_13 : decode cX0_init 13 = .ok (.bipush 12, 2) := by decide +kernel
theorem dX0_init_15 : decode cX0_init 15 = .ok (.newarray .int, 2) := by decide +kernel
theorem dX0_init_17 : decode cX0_init 17 = .ok (.putfield 15, 3) := by decide +kernel
theorem dX0_init_20 : decode cX0_init 20 = .ok (.aload_n 0, 1) := by decide +kernel
theorem dX0_init_21 : decode cX0_init 21 = .ok (.bipush 12, 2) := by decide +kernel
theorem dX0_init_23 : decode cX0_init 23 = .ok (.newarray .int, 2) := by decide +kernel
theorem dX0_init_25 : decode cX0_init 25 = .ok (.putfield 18, 3) := by decide +kernel
theorem dX0_init_28 : decode cX0_init 28 = .ok (.aload_n 0, 1) := by decide +kernel
theorem dX0_init_29 : decode cX0_init 29 = .ok (.bipush 12, 2) := by decide +kernel
theorem dX0_init_31 : decode cX0_init 31 = .ok (.newarray .int, 2) := by decide +kernel
theorem dX0_init_33 : decode cX0_init 33 = .ok (.putfield 21, 3) := by decide +kernel
theorem dX0_init_36 : decode cX0_init 36 = .ok (.aload_n 0, 1) := by decide +kernel
theorem dX0_init_37 : decode cX0_init 37 = .ok (.bipush 6, 2) := by decide +kernel
theorem dX0_init_39 : decode cX0_init 39 = .ok (.newarray .int, 2) := by decide +kernel
theorem dX0_init_41 : decode cX0_init 41 = .ok (.putfield 24, 3) := by decide +kernel
theorem dX0_init_44 : decode cX0_init 44 = .ok (.aload_n 0, 1) := by decide +kernel
theorem dX0_init_45 : decode cX0_init 45 = .ok (.bipush 6, 2) := by decide +kernel
theorem dX0_init_47 : decode cX0_init 47 = .ok (.newarray .int, 2) := by decide +kernel
theorem dX0_init_49 : decode cX0_init 49 = .ok (.putfield 27, 3) := by decide +kernel
theorem dX0_init_52 : decode cX0_init 52 = .ok (.aload_n 0, 1) := by decide +kernel
theorem dX0_init_53 : decode cX0_init 53 = .ok (.bipush 8, 2) := by decide +kernel
theorem dX0_init_55 : decode cX0_init 55 = .ok (.newarray .int, 2) := by decide +kernel
theorem dX0_init_57 : decode cX0_init 57 = .ok (.putfield 30, 3) := by decide +kernel
theorem dX0_init_60 : decode cX0_init 60 = .ok (.aload_n 0, 1) := by decide +kernel
theorem dX0_init_61 : decode cX0_init 61 = .ok (.bipush 8, 2) := by decide +kernel
theorem dX0_init_63 : decode cX0_init 63 = .ok (.newarray .int, 2) := by decide +kernel
theorem dX0_init_65 : decode cX0_init 65 = .ok (.putfield 33, 3) := by decide +kernel
theorem dX0_init_68 : decode cX0_init 68 = .ok (.aload_n 0, 1) := by decide +kernel
theorem dX0_init_69 : decode cX0_init 69 = .ok (.iconst 0, 1) := by decide +kernel
theorem dX0_init_70 : decode cX0_init 70 = .ok (.putfield 36, 3) := by decide +kernel
theorem dX0_init_73 : decode cX0_init 73 = .ok (.aload_n 0, 1) := by decide +kernel
theorem dX0_init_74 : decode cX0_init 74 = .ok (.iconst 0, 1) := by decide +kernel
theorem dX0_init_75 : decode cX0_init 75 = .ok (.putfield 40, 3) := by decide +kernel
theorem dX0_init_78 : decode cX0_init 78 = .ok (.aload_n 0, 1) := by decide +kernel
theorem dX0_init_79 : decode cX0_init 79 = .ok (.iconst 0, 1) := by decide +kernel
theorem dX0_init_80 : decode cX0_init 80 = .ok (.putfield 43, 3) := by decide +kernel
theorem dX0_init_83 : decode cX0_init 83 = .ok (.aload_n 0, 1) := by decide +kernel
theorem dX0_init_84 : decode cX0_init 84 = .ok (.sipush 600, 3) := by decide +kernel
theorem dX0_init_87 : decode cX0_init 87 = .ok (.putfield 46, 3) := by decide +kernel
theorem dX0_init_90 : decode cX0_init 90 = .ok (.aload_n 0, 1) := by decide +kernel
theorem dX0_init_91 : decode cX0_init 91 = .ok (.bipush 20, 2) := by decide +kernel
theorem dX0_init_93 : decode cX0_init 93 = .ok (.putfield 49, 3) := by decide +kernel
theorem dX0_init_96 : decode cX0_init 96 = .ok (.aload_n 0, 1) := by decide +kernel
theorem dX0_init_97 : decode cX0_init 97 = .ok (.iconst 1, 1) := by decide +kernel
theorem dX0_init_98 : decode cX0_init 98 = .ok (.putfield 52, 3) := by decide +kernel
theorem dX0_init_101 : decode cX0_init 101 = .ok (.return_, 1) := by decide +kernel
theorem dX0_isNote_0 : decode cX0_isNote 0 = .ok (.lload_n 0, 1) := by decide +kernel
theorem dX0_isNote_1 : decode cX0_isNote 1 = .ok (.lconst 0, 1) := by decide +kernel
theorem dX0_isNote_2 : decode cX0_isNote 2 = .ok (.lcmp, 1) := by decide +kernel
theorem dX0_isNote_3 : decode cX0_isNote 3 = .ok (.ifCond .lt 15, 3) := by decide +kernel
theorem dX0_isNote_6 : decode cX0_isNote 6 = .ok (.lload_n 0, 1) := by decide +kernel
theorem dX0_isNote_7 : decode cX0_isNote 7 = .ok (.ldc2_w 55, 3) := by decide +kernel
theorem dX0_isNote_10 : decode cX0_isNote 10 = .ok (.lcmp, 1) := by decide +kernel
theorem dX0_isNote_11 : decode cX0_isNote 11 = .ok (.ifCond .gt 7, 3) := by decide +kernel
theorem dX0_isNote_14 : decode cX0_isNote 14 = .ok (.iconst 1, 1) := by decide +kernel
theorem dX0_isNote_15 : decode cX0_isNote 15 = .ok (.goto 4, 3) := by decide +kernel
theorem dX0_isNote_18 : decode cX0_isNote 18 = .ok (.iconst 0, 1) := by decide +kernel
theorem dX0_isNote_19 : decode cX0_isNote 19 = .ok (.ireturn, 1) := by decide +kernel
theorem dX0_isUse_0 : decode cX0_isUse 0 = .ok (.iload_n 0, 1) := by decide +kernel
theorem dX0_isUse_1 : decode cX0_isUse 1 = .ok (.iconst 1, 1) := by decide +kernel
theorem dX0_isUse_2 : decode cX0_isUse 2 = .ok (.if_icmp .lt 13, 3) := by decide +kernel
theorem dX0_isUse_5 : decode cX0_isUse 5 = .ok (.iload_n 0, 1) := by decide +kernel
theorem dX0_isUse_6 : decode cX0_isUse 6 = .ok (.bipush 99, 2) := by decide +kernel
theorem dX0_isUse_8 : decode cX0_isUse 8 = .ok (.if_icmp .gt 7, 3) := by decide +kernel
theorem dX0_isUse_11 : decode cX0_isUse 11 = .ok (.iconst 1, 1) := by decide +kernel
theorem dX0_isUse_12 : decode cX0_isUse 12 = .ok (.goto 4, 3) := by decide +kernel
theorem dX0_isUse_15 : decode cX0_isUse 15 = .ok (.iconst 0, 1) := by decide +kernel
theorem dX0_isUse_16 : decode cX0_isUse 16 = .ok (.ireturn, 1) := by decide +kernel
theorem dX0_isCost_0 : decode cX0_isCost 0 = .ok (.iload_n 0, 1) := by decide +kernel
theorem dX0_isCost_1 : decode cX0_isCost 1 = .ok (.ifCond .lt 13, 3) := by decide +kernel
theorem dX0_isCost_4 : decode cX0_isCost 4 = .ok (.iload_n 0, 1) := by decide +kernel
theorem dX0_isCost_5 : decode cX0_isCost 5 = .ok (.bipush 99, 2) := by decide +kernel
theorem dX0_isCost_7 : decode cX0_isCost 7 = .ok (.if_icmp .gt 7, 3) := by decide +kernel
theorem dX0_isCost_10 : decode cX0_isCost 10 = .ok (.iconst 1, 1) := by decide +kernel
theorem dX0_isCost_11 : decode cX0_isCost 11 = .ok (.goto 4, 3) := by decide +kernel
theorem dX0_isCost_14 : decode cX0_isCost 14 = .ok (.iconst 0, 1) := by decide +kernel
theorem dX0_isCost_15 : decode cX0_isCost 15 = .ok (.ireturn, 1) := by decide +kernel
theorem dX0_isLook_0 : decode cX0_isLook 0 = .ok (.iload_n 0, 1) := by decide +kernel
theorem dX0_isLook_1 : decode cX0_isLook 1 = .ok (.ifCond .eq 8, 3) := by decide +kernel
theorem dX0_isLook_4 : decode cX0_isLook 4 = .ok (.iload_n 0, 1) := by decide +kernel
theorem dX0_isLook_5 : decode cX0_isLook 5 = .ok (.iconst 1, 1) := by decide +kernel
theorem dX0_isLook_6 : decode cX0_isLook 6 = .ok (.if_icmp .ne 7, 3) := by decide +kernel
theorem dX0_isLook_9 : decode cX0_isLook 9 = .ok (.iconst 1, 1) := by decide +kernel
theorem dX0_isLook_10 : decode cX0_isLook 10 = .ok (.goto 4, 3) := by decide +kernel
theorem dX0_isLook_13 : decode cX0_isLook 13 = .ok (.iconst 0, 1) := by decide +kernel
theorem dX0_isLook_14 : decode cX0_isLook 14 = .ok (.ireturn, 1) := by decide +kernel
theorem dX0_isSure_0 : decode cX0_isSure 0 = .ok (.iload_n 0, 1) := by decide +kernel
theorem dX0_isSure_1 : decode cX0_isSure 1 = .ok (.ifCond .lt 14, 3) := by decide +kernel
theorem dX0_isSure_4 : decode cX0_isSure 4 = .ok (.iload_n 0, 1) := by decide +kernel
theorem dX0_isSure_5 : decode cX0_isSure 5 = .ok (.sipush 1000, 3) := by decide +kernel
theorem dX0_isSure_8 : decode cX0_isSure 8 = .ok (.if_icmp .gt 7, 3) := by decide +kernel
theorem dX0_isSure_11 : decode cX0_isSure 11 = .ok (.iconst 1, 1) := by decide +kernel
theorem dX0_isSure_12 : decode cX0_isSure 12 = .ok (.goto 4, 3) := by decide +kernel
theorem dX0_isSure_15 : decode cX0_isSure 15 = .ok (.iconst 0, 1) := by decide +kernel
theorem dX0_isSure_16 : decode cX0_isSure 16 = .ok (.ireturn, 1) := by decide +kernel
theorem dX0_isLost_0 : decode cX0_isLost 0 = .ok (.iload_n 0, 1) := by decide +kernel
theorem dX0_isLost_1 : decode cX0_isLost 1 = .ok (.ifCond .lt 13, 3) := by decide +kernel
theorem dX0_isLost_4 : decode cX0_isLost 4 = .ok (.iload_n 0, 1) := by decide +kernel
theorem dX0_isLost_5 : decode cX0_isLost 5 = .ok (.bipush 100, 2) := by decide +kernel
theorem dX0_isLost_7 : decode cX0_isLost 7 = .ok (.if_icmp .gt 7, 3) := by decide +kernel
theorem dX0_isLost_10 : decode cX0_isLost 10 = .ok (.iconst 1, 1) := by decide +kernel
theorem dX0_isLost_11 : decode cX0_isLost 11 = .ok (.goto 4, 3) := by decide +kernel
theorem dX0_isLost_14 : decode cX0_isLost 14 = .ok (.iconst 0, 1) := by decide +kernel
theorem dX0_isLost_15 : decode cX0_isLost 15 = .ok (.ireturn, 1) := by decide +kernel
theorem dX0_packedNote_0 : decode cX0_packedNote 0 = .ok (.iload_n 0, 1) := by decide +kernel
theorem dX0_packedNote_1 : decode cX0_packedNote 1 = .ok (.iconst 1, 1) := by decide +kernel
theorem dX0_packedNote_2 : decode cX0_packedNote 2 = .ok (.iadd, 1) := by decide +kernel
theorem dX0_packedNote_3 : decode cX0_packedNote 3 = .ok (.iconst 3, 1) := by decide +kernel
theorem dX0_packedNote_4 : decode cX0_packedNote 4 = .ok (.iload_n 1, 1) := by decide +kernel
theorem dX0_packedNote_5 : decode cX0_packedNote 5 = .ok (.imul, 1) := by decide +kernel
theorem dX0_packedNote_6 : decode cX0_packedNote 6 = .ok (.ishl, 1) := by decide +kernel
theorem dX0_packedNote_7 : decode cX0_packedNote 7 = .ok (.ireturn, 1) := by decide +kernel
theorem dX0_takeAll_0 : decode cX0_takeAll 0 = .ok (.aload_n 1, 1) := by decide +kernel
theorem dX0_takeAll_1 : decode cX0_takeAll 1 = .ok (.getfield 11, 3) := by decide +kernel
theorem dX0_takeAll_4 : decode cX0_takeAll 4 = .ok (.iconst 0, 1) := by decide +kernel
theorem dX0_takeAll_5 : decode cX0_takeAll 5 = .ok (.aload_n 0, 1) := by decide +kernel
theorem dX0_takeAll_6 : decode cX0_takeAll 6 = .ok (.getfield 11, 3) := by decide +kernel
theorem dX0_takeAll_9 : decode cX0_takeAll 9 = .ok (.iconst 0, 1) := by decide +kernel
theorem dX0_takeAll_10 : decode cX0_takeAll 10 = .ok (.bipush 12, 2) := by decide +kernel
theorem dX0_takeAll_12 : decode cX0_takeAll 12 = .ok (.invokestatic 57, 3) := by decide +kernel
theorem dX0_takeAll_15 : decode cX0_takeAll 15 = .ok (.aload_n 1, 1) := by decide +kernel
theorem dX0_takeAll_16 : decode cX0_takeAll 16 = .ok (.getfield 15, 3) := by decide +kernel
theorem dX0_takeAll_19 : decode cX0_takeAll 19 = .ok (.iconst 0, 1) := by decide +kernel
theorem dX0_takeAll_20 : decode cX0_takeAll 20 = .ok (.aload_n 0, 1) := by decide +kernel
theorem dX0_takeAll_21 : decode cX0_takeAll 21 = .ok (.getfield 15, 3) := by decide +kernel
theorem dX0_takeAll_24 : decode cX0_takeAll 24 = .ok (.iconst 0, 1) := by decide +kernel
theorem dX0_takeAll_25 : decode cX0_takeAll 25 = .ok (.bipush 12, 2) := by decide +kernel
theorem dX0_takeAll_27 : decode cX0_takeAll 27 = .ok (.invokestatic 57, 3) := by decide +kernel
theorem dX0_takeAll_30 : decode cX0_takeAll 30 = .ok (.aload_n 1, 1) := by decide +kernel
theorem dX0_takeAll_31 : decode cX0_takeAll 31 = .ok (.getfield 18, 3) := by decide +kernel
theorem dX0_takeAll_34 : decode cX0_takeAll 34 = .ok (.iconst 0, 1) := by decide +kernel
theorem dX0_takeAll_35 : decode cX0_takeAll 35 = .ok (.aload_n 0, 1) := by decide +kernel
theorem dX0_takeAll_36 : decode cX0_takeAll 36 = .ok (.getfield 18, 3) := by decide +kernel
theorem dX0_takeAll_39 : decode cX0_takeAll 39 = .ok (.iconst 0, 1) := by decide +kernel
theorem dX0_takeAll_40 : decode cX0_takeAll 40 = .ok (.bipush 12, 2) := by decide +kernel
theorem dX0_takeAll_42 : decode cX0_takeAll 42 = .ok (.invokestatic 57, 3) := by decide +kernel
theorem dX0_takeAll_45 : decode cX0_takeAll 45 = .ok (.aload_n 1, 1) := by decide +kernel
theorem dX0_takeAll_46 : decode cX0_takeAll 46 = .ok (.getfield 21, 3) := by decide +kernel
theorem dX0_takeAll_49 : decode cX0_takeAll 49 = .ok (.iconst 0, 1) := by decide +kernel
theorem dX0_takeAll_50 : decode cX0_takeAll 50 = .ok (.aload_n 0, 1) := by decide +kernel
theorem dX0_takeAll_51 : decode cX0_takeAll 51 = .ok (.getfield 21, 3) := by decide +kernel
theorem dX0_takeAll_54 : decode cX0_takeAll 54 = .ok (.iconst 0, 1) := by decide +kernel
theorem dX0_takeAll_55 : decode cX0_takeAll 55 = .ok (.bipush 12, 2) := by decide +kernel
theorem dX0_takeAll_57 : decode cX0_takeAll 57 = .ok (.invokestatic 57, 3) := by decide +kernel
theorem dX0_takeAll_60 : decode cX0_takeAll 60 = .ok (.aload_n 1, 1) := by decide +kernel
theorem dX0_takeAll_61 : decode cX0_takeAll 61 = .ok (.getfield 24, 3) := by decide +kernel
theorem dX0_takeAll_64 : decode cX0_takeAll 64 = .ok (.iconst 0, 1) := by decide +kernel
theorem dX0_takeAll_65 : decode cX0_takeAll 65 = .ok (.aload_n 0, 1) := by decide +kernel
theorem dX0_takeAll_66 : decode cX0_takeAll 66 = .ok (.getfield 24, 3) := by decide +kernel
theorem dX0_takeAll_69 : decode cX0_takeAll 69 = .ok (.iconst 0, 1) := by decide +kernel
theorem dX0_takeAll_70 : decode cX0_takeAll 70 = .ok (.bipush 6, 2) := by decide +kernel
theorem dX0_takeAll_72 : decode cX0_takeAll 72 = .ok (.invokestatic 57, 3) := by decide +kernel
theorem dX0_takeAll_75 : decode cX0_takeAll 75 = .ok (.aload_n 1, 1) := by decide +kernel
theorem dX0_takeAll_76 : decode cX0_takeAll 76 = .ok (.getfield 27, 3) := by decide +kernel
theorem dX0_takeAll_79 : decode cX0_takeAll 79 = .ok (.iconst 0, 1) := by decide +kernel
theorem dX0_takeAll_80 : decode cX0_takeAll 80 = .ok (.aload_n 0, 1) := by decide +kernel
theorem dX0_takeAll_81 : decode cX0_takeAll 81 = .ok (.getfield 27, 3) := by decide +kernel
theorem dX0_takeAll_84 : decode cX0_takeAll 84 = .ok (.iconst 0, 1) := by decide +kernel
theorem dX0_takeAll_85 : decode cX0_takeAll 85 = .ok (.bipush 6, 2) := by decide +kernel
theorem dX0_takeAll_87 : decode cX0_takeAll 87 = .ok (.invokestatic 57, 3) := by decide +kernel
theorem dX0_takeAll_90 : decode cX0_takeAll 90 = .ok (.aload_n 1, 1) := by decide +kernel
theorem dX0_takeAll_91 : decode cX0_takeAll 91 = .ok (.getfield 30, 3) := by decide +kernel
theorem dX0_takeAll_94 : decode cX0_takeAll 94 = .ok (.iconst 0, 1) := by decide +kernel
theorem dX0_takeAll_95 : decode cX0_takeAll 95 = .ok (.aload_n 0, 1) := by decide +kernel
theorem dX0_takeAll_96 : decode cX0_takeAll 96 = .ok (.getfield 30, 3) := by decide +kernel
theorem dX0_takeAll_99 : decode cX0_takeAll 99 = .ok (.iconst 0, 1) := by decide +kernel
theorem dX0_takeAll_100 : decode cX0_takeAll 100 = .ok (.bipush 8, 2) := by decide +kernel
theorem dX0_takeAll_102 : decode cX0_takeAll 102 = .ok (.invokestatic 57, 3) := by decide +kernel
theorem dX0_takeAll_105 : decode cX0_takeAll 105 = .ok (.aload_n 1, 1) := by decide +kernel
theorem dX0_takeAll_106 : decode cX0_takeAll 106 = .ok (.getfield 33, 3) := by decide +kernel
theorem dX0_takeAll_109 : decode cX0_takeAll 109 = .ok (.iconst 0, 1) := by decide +kernel
theorem dX0_takeAll_110 : decode cX0_takeAll 110 = .ok (.aload_n 0, 1) := by decide +kernel
theorem dX0_takeAll_111 : decode cX0_takeAll 111 = .ok (.getfield 33, 3) := by decide +kernel
theorem dX0_takeAll_114 : decode cX0_takeAll 114 = .ok (.iconst 0, 1) := by decide +kernel
theorem dX0_takeAll_115 : decode cX0_takeAll 115 = .ok (.bipush 8, 2) := by decide +kernel
theorem dX0_takeAll_117 : decode cX0_takeAll 117 = .ok (.invokestatic 57, 3) := by decide +kernel
theorem dX0_takeAll_120 : decode cX0_takeAll 120 = .ok (.aload_n 0, 1) := by decide +kernel
theorem dX0_takeAll_121 : decode cX0_takeAll 121 = .ok (.aload_n 1, 1) := by decide +kernel
theorem dX0_takeAll_122 : decode cX0_takeAll 122 = .ok (.getfield 36, 3) := by decide +kernel
theorem dX0_takeAll_125 : decode cX0_takeAll 125 = .ok (.putfield 36, 3) := by decide +kernel
theorem dX0_takeAll_128 : decode cX0_takeAll 128 = .ok (.aload_n 0, 1) := by decide +kernel
theorem dX0_takeAll_129 : decode cX0_takeAll 129 = .ok (.aload_n 1, 1) := by decide +kernel
theorem dX0_takeAll_130 : decode cX0_takeAll 130 = .ok (.getfield 40, 3) := by decide +kernel
theorem dX0_takeAll_133 : decode cX0_takeAll 133 = .ok (.putfield 40, 3) := by decide +kernel
theorem dX0_takeAll_136 : decode cX0_takeAll 136 = .ok (.aload_n 0, 1) := by decide +kernel
theorem dX0_takeAll_137 : decode cX0_takeAll 137 = .ok (.aload_n 1, 1) := by decide +kernel
theorem dX0_takeAll_138 : decode cX0_takeAll 138 = .ok (.getfield 43, 3) := by decide +kernel
theorem dX0_takeAll_141 : decode cX0_takeAll 141 = .ok (.putfield 43, 3) := by decide +kernel
theorem dX0_takeAll_144 : decode cX0_takeAll 144 = .ok (.aload_n 0, 1) := by decide +kernel
theorem dX0_takeAll_145 : decode cX0_takeAll 145 = .ok (.aload_n 1, 1) := by decide +kernel
theorem dX0_takeAll_146 : decode cX0_takeAll 146 = .ok (.getfield 46, 3) := by decide +kernel
theorem dX0_takeAll_149 : decode cX0_takeAll 149 = .ok (.putfield 46, 3) := by decide +kernel
theorem dX0_takeAll_152 : decode cX0_takeAll 152 = .ok (.aload_n 0, 1) := by decide +kernel
theorem dX0_takeAll_153 : decode cX0_takeAll 153 = .ok (.aload_n 1, 1) := by decide +kernel
theorem dX0_takeAll_154 : decode cX0_takeAll 154 = .ok (.getfield 49, 3) := by decide +kernel
theorem dX0_takeAll_157 : decode cX0_takeAll 157 = .ok (.putfield 49, 3) := by decide +kernel
theorem dX0_takeAll_160 : decode cX0_takeAll 160 = .ok (.aload_n 0, 1) := by decide +kernel
theorem dX0_takeAll_161 : decode cX0_takeAll 161 = .ok (.aload_n 1, 1) := by decide +kernel
theorem dX0_takeAll_162 : decode cX0_takeAll 162 = .ok (.getfield 52, 3) := by decide +kernel
theorem dX0_takeAll_165 : decode cX0_takeAll 165 = .ok (.putfield 52, 3) := by decide +kernel
theorem dX0_takeAll_168 : decode cX0_takeAll 168 = .ok (.return_, 1) := by decide +kernel
theorem dX0_isCall_0 : decode cX0_isCall 0 = .ok (.iload_n 1, 1) := by decide +kernel
theorem dX0_isCall_1 : decode cX0_isCall 1 = .ok (.ifCond .lt 15, 3) := by decide +kernel
theorem dX0_isCall_4 : decode cX0_isCall 4 = .ok (.iload_n 1, 1) := by decide +kernel
theorem dX0_isCall_5 : decode cX0_isCall 5 = .ok (.aload_n 0, 1) := by decide +kernel
theorem dX0_isCall_6 : decode cX0_isCall 6 = .ok (.getfield 36, 3) := by decide +kernel
theorem dX0_isCall_9 : decode cX0_isCall 9 = .ok (.if_icmp .ge 7, 3) := by decide +kernel
theorem dX0_isCall_12 : decode cX0_isCall 12 = .ok (.iconst 1, 1) := by decide +kernel
theorem dX0_isCall_13 : decode cX0_isCall 13 = .ok (.goto 4, 3) := by decide +kernel
theorem dX0_isCall_16 : decode cX0_isCall 16 = .ok (.iconst 0, 1) := by decide +kernel
theorem dX0_isCall_17 : decode cX0_isCall 17 = .ok (.ireturn, 1) := by decide +kernel
theorem dX0_isEar_0 : decode cX0_isEar 0 = .ok (.iload_n 1, 1) := by decide +kernel
theorem dX0_isEar_1 : decode cX0_isEar 1 = .ok (.ifCond .lt 15, 3) := by decide +kernel
theorem dX0_isEar_4 : decode cX0_isEar 4 = .ok (.iload_n 1, 1) := by decide +kernel
theorem dX0_isEar_5 : decode cX0_isEar 5 = .ok (.aload_n 0, 1) := by decide +kernel
theorem dX0_isEar_6 : decode cX0_isEar 6 = .ok (.getfield 40, 3) := by decide +kernel
theorem dX0_isEar_9 : decode cX0_isEar 9 = .ok (.if_icmp .ge 7, 3) := by decide +kernel
theorem dX0_isEar_12 : decode cX0_isEar 12 = .ok (.iconst 1, 1) := by decide +kernel
theorem dX0_isEar_13 : decode cX0_isEar 13 = .ok (.goto 4, 3) := by decide +kernel
theorem dX0_isEar_16 : decode cX0_isEar 16 = .ok (.iconst 0, 1) := by decide +kernel
theorem dX0_isEar_17 : decode cX0_isEar 17 = .ok (.ireturn, 1) := by decide +kernel
theorem dX0_isMan_0 : decode cX0_isMan 0 = .ok (.iload_n 1, 1) := by decide +kernel
theorem dX0_isMan_1 : decode cX0_isMan 1 = .ok (.ifCond .lt 15, 3) := by decide +kernel
theorem dX0_isMan_4 : decode cX0_isMan 4 = .ok (.iload_n 1, 1) := by decide +kernel
theorem dX0_isMan_5 : decode cX0_isMan 5 = .ok (.aload_n 0, 1) := by decide +kernel
theorem dX0_isMan_6 : decode cX0_isMan 6 = .ok (.getfield 43, 3) := by decide +kernel
theorem dX0_isMan_9 : decode cX0_isMan 9 = .ok (.if_icmp .ge 7, 3) := by decide +kernel
theorem dX0_isMan_12 : decode cX0_isMan 12 = .ok (.iconst 1, 1) := by decide +kernel
theorem dX0_isMan_13 : decode cX0_isMan 13 = .ok (.goto 4, 3) := by decide +kernel
theorem dX0_isMan_16 : decode cX0_isMan 16 = .ok (.iconst 0, 1) := by decide +kernel
theorem dX0_isMan_17 : decode cX0_isMan 17 = .ok (.ireturn, 1) := by decide +kernel
theorem dX0_hasRoomForCall_0 : decode cX0_hasRoomForCall 0 = .ok (.aload_n 0, 1) := by decide +kernel
theorem dX0_hasRoomForCall_1 : decode cX0_hasRoomForCall 1 = .ok (.getfield 36, 3) := by decide +kernel
theorem dX0_hasRoomForCall_4 : decode cX0_hasRoomForCall 4 = .ok (.bipush 12, 2) := by decide +kernel
theorem dX0_hasRoomForCall_6 : decode cX0_hasRoomForCall 6 = .ok (.if_icmp .ge 7, 3) := by decide +kernel
theorem dX0_hasRoomForCall_9 : decode cX0_hasRoomForCall 9 = .ok (.iconst 1, 1) := by decide +kernel
theorem dX0_hasRoomForCall_10 : decode cX0_hasRoomForCall 10 = .ok (.goto 4, 3) := by decide +kernel
theorem dX0_hasRoomForCall_13 : decode cX0_hasRoomForCall 13 = .ok (.iconst 0, 1) := by decide +kernel
theorem dX0_hasRoomForCall_14 : decode cX0_hasRoomForCall 14 = .ok (.ireturn, 1) := by decide +kernel
theorem dX0_hasRoomForEar_0 : decode cX0_hasRoomForEar 0 = .ok (.aload_n 0, 1) := by decide +kernel
theorem dX0_hasRoomForEar_1 : decode cX0_hasRoomForEar 1 = .ok (.getfield 40, 3) := by decide +kernel
theorem dX0_hasRoomForEar_4 : decode cX0_hasRoomForEar 4 = .ok (.bipush 6, 2) := by decide +kernel
theorem dX0_hasRoomForEar_6 : decode cX0_hasRoomForEar 6 = .ok (.if_icmp .ge 7, 3) := by decide +kernel
theorem dX0_hasRoomForEar_9 : decode cX0_hasRoomForEar 9 = .ok (.iconst 1, 1) := by decide +kernel
theorem dX0_hasRoomForEar_10 : decode cX0_hasRoomForEar 10 = .ok (.goto 4, 3) := by decide +kernel
theorem dX0_hasRoomForEar_13 : decode cX0_hasRoomForEar 13 = .ok (.iconst 0, 1) := by decide +kernel
theorem dX0_hasRoomForEar_14 : decode cX0_hasRoomForEar 14 = .ok (.ireturn, 1) := by decide +kernel
theorem dX0_hasRoomForMan_0 : decode cX0_hasRoomForMan 0 = .ok (.aload_n 0, 1) := by decide +kernel
theorem dX0_hasRoomForMan_1 : decode cX0_hasRoomForMan 1 = .ok (.getfield 43, 3) := by decide +kernel
theorem dX0_hasRoomForMan_4 : decode cX0_hasRoomForMan 4 = .ok (.bipush 8, 2) := by decide +kernel
theorem dX0_hasRoomForMan_6 : decode cX0_hasRoomForMan 6 = .ok (.if_icmp .ge 7, 3) := by decide +kernel
theorem dX0_hasRoomForMan_9 : decode cX0_hasRoomForMan 9 = .ok (.iconst 1, 1) := by decide +kernel
theorem dX0_hasRoomForMan_10 : decode cX0_hasRoomForMan 10 = .ok (.goto 4, 3) := by decide +kernel
theorem dX0_hasRoomForMan_13 : decode cX0_hasRoomForMan 13 = .ok (.iconst 0, 1) := by decide +kernel
theorem dX0_hasRoomForMan_14 : decode cX0_hasRoomForMan 14 = .ok (.ireturn, 1) := by decide +kernel
theorem dX0_addCall_0 : decode cX0_addCall 0 = .ok (.aload_n 0, 1) := by decide +kernel
theorem dX0_addCall_1 : decode cX0_addCall 1 = .ok (.getfield 36, 3) := by decide +kernel
theorem dX0_addCall_4 : decode cX0_addCall 4 = .ok (.ifCond .lt 12, 3) := by decide +kernel
theorem dX0_addCall_7 : decode cX0_addCall 7 = .ok (.aload_n 0, 1) := by decide +kernel
theorem dX0_addCall_8 : decode cX0_addCall 8 = .ok (.getfield 36, 3) := by decide +kernel
theorem dX0_addCall_11 : decode cX0_addCall 11 = .ok (.bipush 12, 2) := by decide +kernel
theorem dX0_addCall_13 : decode cX0_addCall 13 = .ok (.if_icmp .lt 5, 3) := by decide +kernel
theorem dX0_addCall_16 : decode cX0_addCall 16 = .ok (.iconst (-1), 1) := by decide +kernel
theorem dX0_addCall_17 : decode cX0_addCall 17 = .ok (.ireturn, 1) := by decide +kernel
theorem dX0_addCall_18 : decode cX0_addCall 18 = .ok (.aload_n 0, 1) := by decide +kernel
theorem dX0_addCall_19 : decode cX0_addCall 19 = .ok (.getfield 11, 3) := by decide +kernel
theorem dX0_addCall_22 : decode cX0_addCall 22 = .ok (.aload_n 0, 1) := by decide +kernel
theorem dX0_addCall_23 : decode cX0_addCall 23 = .ok (.getfield 36, 3) := by decide +kernel
theorem dX0_addCall_26 : decode cX0_addCall 26 = .ok (.iconst 0, 1) := by decide +kernel
theorem dX0_addCall_27 : decode cX0_addCall 27 = .ok (.iastore, 1) := by decide +kernel
theorem dX0_addCall_28 : decode cX0_addCall 28 = .ok (.aload_n 0, 1) := by decide +kernel
theorem dX0_addCall_29 : decode cX0_addCall 29 = .ok (.getfield 15, 3) := by decide +kernel
theorem dX0_addCall_32 : decode cX0_addCall 32 = .ok (.aload_n 0, 1) := by decide +kernel
theorem dX0_addCall_33 : decode cX0_addCall 33 = .ok (.getfield 36, 3) := by decide +kernel
theorem dX0_addCall_36 : decode cX0_addCall 36 = .ok (.iconst 0, 1) := by decide +kernel
theorem dX0_addCall_37 : decode cX0_addCall 37 = .ok (.iastore, 1) := by decide +kernel
theorem dX0_addCall_38 : decode cX0_addCall 38 = .ok (.aload_n 0, 1) := by decide +kernel
theorem dX0_addCall_39 : decode cX0_addCall 39 = .ok (.getfield 18, 3) := by decide +kernel
theorem dX0_addCall_42 : decode cX0_addCall 42 = .ok (.aload_n 0, 1) := by decide +kernel
theorem dX0_addCall_43 : decode cX0_addCall 43 = .ok (.getfield 36, 3) := by decide +kernel
theorem dX0_addCall_46 : decode cX0_addCall 46 = .ok (.iload_n 1, 1) := by decide +kernel
theorem dX0_addCall_47 : decode cX0_addCall 47 = .ok (.iastore, 1) := by decide +kernel
theorem dX0_addCall_48 : decode cX0_addCall 48 = .ok (.aload_n 0, 1) := by decide +kernel
theorem dX0_addCall_49 : decode cX0_addCall 49 = .ok (.getfield 21, 3) := by decide +kernel
theorem dX0_addCall_52 : decode cX0_addCall 52 = .ok (.aload_n 0, 1) := by decide +kernel
theorem dX0_addCall_53 : decode cX0_addCall 53 = .ok (.getfield 36, 3) := by decide +kernel
theorem dX0_addCall_56 : decode cX0_addCall 56 = .ok (.iload_n 2, 1) := by decide +kernel
theorem dX0_addCall_57 : decode cX0_addCall 57 = .ok (.iastore, 1) := by decide +kernel
theorem dX0_addCall_58 : decode cX0_addCall 58 = .ok (.aload_n 0, 1) := by decide +kernel
theorem dX0_addCall_59 : decode cX0_addCall 59 = .ok (.dup, 1) := by decide +kernel
theorem dX0_addCall_60 : decode cX0_addCall 60 = .ok (.getfield 36, 3) := by decide +kernel
theorem dX0_addCall_63 : decode cX0_addCall 63 = .ok (.iconst 1, 1) := by decide +kernel
theorem dX0_addCall_64 : decode cX0_addCall 64 = .ok (.iadd, 1) := by decide +kernel
theorem dX0_addCall_65 : decode cX0_addCall 65 = .ok (.putfield 36, 3) := by decide +kernel
theorem dX0_addCall_68 : decode cX0_addCall 68 = .ok (.aload_n 0, 1) := by decide +kernel
theorem dX0_addCall_69 : decode cX0_addCall 69 = .ok (.getfield 36, 3) := by decide +kernel
theorem dX0_addCall_72 : decode cX0_addCall 72 = .ok (.iconst 1, 1) := by decide +kernel
theorem dX0_addCall_73 : decode cX0_addCall 73 = .ok (.isub, 1) := by decide +kernel
theorem dX0_addCall_74 : decode cX0_addCall 74 = .ok (.ireturn, 1) := by decide +kernel
theorem dX0_addNote_0 : decode cX0_addNote 0 = .ok (.aload_n 0, 1) := by decide +kernel
theorem dX0_addNote_1 : decode cX0_addNote 1 = .ok (.getfield 36, 3) := by decide +kernel
theorem dX0_addNote_4 : decode cX0_addNote 4 = .ok (.iconst 1, 1) := by decide +kernel
theorem dX0_addNote_5 : decode cX0_addNote 5 = .ok (.isub, 1) := by decide +kernel
theorem dX0_addNote_6 : decode cX0_addNote 6 = .ok (.istore_n 2, 1) := by decide +kernel
theorem dX0_addNote_7 : decode cX0_addNote 7 = .ok (.iload_n 2, 1) := by decide +kernel
theorem dX0_addNote_8 : decode cX0_addNote 8 = .ok (.ifCond .lt 49, 3) := by decide +kernel
theorem dX0_addNote_11 : decode cX0_addNote 11 = .ok (.iload_n 2, 1) := by decide +kernel
theorem dX0_addNote_12 : decode cX0_addNote 12 = .ok (.bipush 12, 2) := by decide +kernel
theorem dX0_addNote_14 : decode cX0_addNote 14 = .ok (.if_icmp .ge 43, 3) := by decide +kernel
theorem dX0_addNote_17 : decode cX0_addNote 17 = .ok (.aload_n 0, 1) := by decide +kernel
theorem dX0_addNote_18 : decode cX0_addNote 18 = .ok (.getfield 11, 3) := by decide +kernel
theorem dX0_addNote_21 : decode cX0_addNote 21 = .ok (.iload_n 2, 1) := by decide +kernel
theorem dX0_addNote_22 : decode cX0_addNote 22 = .ok (.iaload, 1) := by decide +kernel
theorem dX0_addNote_23 : decode cX0_addNote 23 = .ok (.bipush 8, 2) := by decide +kernel
theorem dX0_addNote_25 : decode cX0_addNote 25 = .ok (.if_icmp .ge 32, 3) := by decide +kernel
theorem dX0_addNote_28 : decode cX0_addNote 28 = .ok (.aload_n 0, 1) := by decide +kernel
theorem dX0_addNote_29 : decode cX0_addNote 29 = .ok (.getfield 15, 3) := by decide +kernel
theorem dX0_addNote_32 : decode cX0_addNote 32 = .ok (.iload_n 2, 1) := by decide +kernel
theorem dX0_addNote_33 : decode cX0_addNote 33 = .ok (.dup2, 1) := by decide +kernel
theorem dX0_addNote_34 : decode cX0_addNote 34 = .ok (.iaload, 1) := by decide +kernel
theorem dX0_addNote_35 : decode cX0_addNote 35 = .ok (.iload_n 1, 1) := by decide +kernel
theorem dX0_addNote_36 : decode cX0_addNote 36 = .ok (.aload_n 0, 1) := by decide +kernel
theorem dX0_addNote_37 : decode cX0_addNote 37 = .ok (.getfield 11, 3) := by decide +kernel
theorem dX0_addNote_40 : decode cX0_addNote 40 = .ok (.iload_n 2, 1) := by decide +kernel
theorem dX0_addNote_41 : decode cX0_addNote 41 = .ok (.iaload, 1) := by decide +kernel
theorem dX0_addNote_42 : decode cX0_addNote 42 = .ok (.invokestatic 63, 3) := by decide +kernel
theorem dX0_addNote_45 : decode cX0_addNote 45 = .ok (.ior, 1) := by decide +kernel
theorem dX0_addNote_46 : decode cX0_addNote 46 = .ok (.iastore, 1) := by decide +kernel
theorem dX0_addNote_47 : decode cX0_addNote 47 = .ok (.aload_n 0, 1) := by decide +kernel
theorem dX0_addNote_48 : decode cX0_addNote 48 = .ok (.getfield 11, 3) := by decide +kernel
theorem dX0_addNote_51 : decode cX0_addNote 51 = .ok (.iload_n 2, 1) := by decide +kernel
theorem dX0_addNote_52 : decode cX0_addNote 52 = .ok (.dup2, 1) := by decide +kernel
theorem dX0_addNote_53 : decode cX0_addNote 53 = .ok (.iaload, 1) := by decide +kernel
theorem dX0_addNote_54 : decode cX0_addNote 54 = .ok (.iconst 1, 1) := by decide +kernel
theorem dX0_addNote_55 : decode cX0_addNote 55 = .ok (.iadd, 1) := by decide +kernel
theorem dX0_addNote_56 : decode cX0_addNote 56 = .ok (.iastore, 1) := by decide +kernel
theorem dX0_addNote_57 : decode cX0_addNote 57 = .ok (.return_, 1) := by decide +kernel
theorem dX0_removeLastCall_0 : decode cX0_removeLastCall 0 = .ok (.aload_n 0, 1) := by decide +kernel
theorem dX0_removeLastCall_1 : decode cX0_removeLastCall 1 = .ok (.getfield 36, 3) := by decide +kernel
theorem dX0_removeLastCall_4 : decode cX0_removeLastCall 4 = .ok (.ifCond .le 13, 3) := by decide +kernel
theorem dX0_removeLastCall_7 : decode cX0_removeLastCall 7 = .ok (.aload_n 0, 1) := by decide +kernel
theorem dX0_removeLastCall_8 : decode cX0_removeLastCall 8 = .ok (.dup, 1) := by decide +kernel
theorem dX0_removeLastCall_9 : decode cX0_removeLastCall 9 = .ok (.getfield 36, 3) := by decide +kernel
theorem dX0_removeLastCall_12 : decode cX0_removeLastCall 12 = .ok (.iconst 1, 1) := by decide +kernel
theorem dX0_removeLastCall_13 : decode cX0_removeLastCall 13 = .ok (.isub, 1) := by decide +kernel
theorem dX0_removeLastCall_14 : decode cX0_removeLastCall 14 = .ok (.putfield 36, 3) := by decide +kernel
theorem dX0_removeLastCall_17 : decode cX0_removeLastCall 17 = .ok (.aload_n 0, 1) := by decide +kernel
theorem dX0_removeLastCall_18 : decode cX0_removeLastCall 18 = .ok (.getfield 36, 3) := by decide +kernel
theorem dX0_removeLastCall_21 : decode cX0_removeLastCall 21 = .ok (.ireturn, 1) := by decide +kernel
theorem dX0_addEar_0 : decode cX0_addEar 0 = .ok (.aload_n 0, 1) := by decide +kernel
theorem dX0_addEar_1 : decode cX0_addEar 1 = .ok (.getfield 40, 3) := by decide +kernel
theorem dX0_addEar_4 : decode cX0_addEar 4 = .ok (.ifCond .lt 12, 3) := by decide +kernel
theorem dX0_addEar_7 : decode cX0_addEar 7 = .ok (.aload_n 0, 1) := by decide +kernel
theorem dX0_addEar_8 : decode cX0_addEar 8 = .ok (.getfield 40, 3) := by decide +kernel
theorem dX0_addEar_11 : decode cX0_addEar 11 = .ok (.bipush 6, 2) := by decide +kernel
theorem dX0_addEar_13 : decode cX0_addEar 13 = .ok (.if_icmp .lt 5, 3) := by decide +kernel
theorem dX0_addEar_16 : decode cX0_addEar 16 = .ok (.iconst (-1), 1) := by decide +kernel
theorem dX0_addEar_17 : decode cX0_addEar 17 = .ok (.ireturn, 1) := by decide +kernel
theorem dX0_addEar_18 : decode cX0_addEar 18 = .ok (.aload_n 0, 1) := by decide +kernel
theorem dX0_addEar_19 : decode cX0_addEar 19 = .ok (.getfield 24, 3) := by decide +kernel
theorem dX0_addEar_22 : decode cX0_addEar 22 = .ok (.aload_n 0, 1) := by decide +kernel
theorem dX0_addEar_23 : decode cX0_addEar 23 = .ok (.getfield 40, 3) := by decide +kernel
theorem dX0_addEar_26 : decode cX0_addEar 26 = .ok (.iload_n 1, 1) := by decide +kernel
theorem dX0_addEar_27 : decode cX0_addEar 27 = .ok (.iastore, 1) := by decide +kernel
theorem dX0_addEar_28 : decode cX0_addEar 28 = .ok (.aload_n 0, 1) := by decide +kernel
theorem dX0_addEar_29 : decode cX0_addEar 29 = .ok (.getfield 27, 3) := by decide +kernel
theorem dX0_addEar_32 : decode cX0_addEar 32 = .ok (.aload_n 0, 1) := by decide +kernel
theorem dX0_addEar_33 : decode cX0_addEar 33 = .ok (.getfield 40, 3) := by decide +kernel
theorem dX0_addEar_36 : decode cX0_addEar 36 = .ok (.iload_n 2, 1) := by decide +kernel
theorem dX0_addEar_37 : decode cX0_addEar 37 = .ok (.iastore, 1) := by decide +kernel
theorem dX0_addEar_38 : decode cX0_addEar 38 = .ok (.aload_n 0, 1) := by decide +kernel
theorem dX0_addEar_39 : decode cX0_addEar 39 = .ok (.dup, 1) := by decide +kernel
theorem dX0_addEar_40 : decode cX0_addEar 40 = .ok (.getfield 40, 3) := by decide +kernel
theorem dX0_addEar_43 : decode cX0_addEar 43 = .ok (.iconst 1, 1) := by decide +kernel
theorem dX0_addEar_44 : decode cX0_addEar 44 = .ok (.iadd, 1) := by decide +kernel
theorem dX0_addEar_45 : decode cX0_addEar 45 = .ok (.putfield 40, 3) := by decide +kernel
theorem dX0_addEar_48 : decode cX0_addEar 48 = .ok (.aload_n 0, 1) := by decide +kernel
theorem dX0_addEar_49 : decode cX0_addEar 49 = .ok (.getfield 40, 3) := by decide +kernel
theorem dX0_addEar_52 : decode cX0_addEar 52 = .ok (.iconst 1, 1) := by decide +kernel
theorem dX0_addEar_53 : decode cX0_addEar 53 = .ok (.isub, 1) := by decide +kernel
theorem dX0_addEar_54 : decode cX0_addEar 54 = .ok (.ireturn, 1) := by decide +kernel
theorem dX0_addMan_0 : decode cX0_addMan 0 = .ok (.aload_n 0, 1) := by decide +kernel
theorem dX0_addMan_1 : decode cX0_addMan 1 = .ok (.getfield 43, 3) := by decide +kernel
theorem dX0_addMan_4 : decode cX0_addMan 4 = .ok (.ifCond .lt 12, 3) := by decide +kernel
theorem dX0_addMan_7 : decode cX0_addMan 7 = .ok (.aload_n 0, 1) := by decide +kernel
theorem dX0_addMan_8 : decode cX0_addMan 8 = .ok (.getfield 43, 3) := by decide +kernel
theorem dX0_addMan_11 : decode cX0_addMan 11 = .ok (.bipush 8, 2) := by decide +kernel
theorem dX0_addMan_13 : decode cX0_addMan 13 = .ok (.if_icmp .lt 5, 3) := by decide +kernel
theorem dX0_addMan_16 : decode cX0_addMan 16 = .ok (.iconst (-1), 1) := by decide +kernel
theorem dX0_addMan_17 : decode cX0_addMan 17 = .ok (.ireturn, 1) := by decide +kernel
theorem dX0_addMan_18 : decode cX0_addMan 18 = .ok (.aload_n 0, 1) := by decide +kernel
theorem dX0_addMan_19 : decode cX0_addMan 19 = .ok (.getfield 30, 3) := by decide +kernel
theorem dX0_addMan_22 : decode cX0_addMan 22 = .ok (.aload_n 0, 1) := by decide +kernel
theorem dX0_addMan_23 : decode cX0_addMan 23 = .ok (.getfield 43, 3) := by decide +kernel
theorem dX0_addMan_26 : decode cX0_addMan 26 = .ok (.iload_n 1, 1) := by decide +kernel
theorem dX0_addMan_27 : decode cX0_addMan 27 = .ok (.iastore, 1) := by decide +kernel
theorem dX0_addMan_28 : decode cX0_addMan 28 = .ok (.aload_n 0, 1) := by decide +kernel
theorem dX0_addMan_29 : decode cX0_addMan 29 = .ok (.getfield 33, 3) := by decide +kernel
theorem dX0_addMan_32 : decode cX0_addMan 32 = .ok (.aload_n 0, 1) := by decide +kernel
theorem dX0_addMan_33 : decode cX0_addMan 33 = .ok (.getfield 43, 3) := by decide +kernel
theorem dX0_addMan_36 : decode cX0_addMan 36 = .ok (.iload_n 2, 1) := by decide +kernel
theorem dX0_addMan_37 : decode cX0_addMan 37 = .ok (.iastore, 1) := by decide +kernel
theorem dX0_addMan_38 : decode cX0_addMan 38 = .ok (.aload_n 0, 1) := by decide +kernel
theorem dX0_addMan_39 : decode cX0_addMan 39 = .ok (.dup, 1) := by decide +kernel
theorem dX0_addMan_40 : decode cX0_addMan 40 = .ok (.getfield 43, 3) := by decide +kernel
theorem dX0_addMan_43 : decode cX0_addMan 43 = .ok (.iconst 1, 1) := by decide +kernel
theorem dX0_addMan_44 : decode cX0_addMan 44 = .ok (.iadd, 1) := by decide +kernel
theorem dX0_addMan_45 : decode cX0_addMan 45 = .ok (.putfield 43, 3) := by decide +kernel
theorem dX0_addMan_48 : decode cX0_addMan 48 = .ok (.aload_n 0, 1) := by decide +kernel
theorem dX0_addMan_49 : decode cX0_addMan 49 = .ok (.getfield 43, 3) := by decide +kernel
theorem dX0_addMan_52 : decode cX0_addMan 52 = .ok (.iconst 1, 1) := by decide +kernel
theorem dX0_addMan_53 : decode cX0_addMan 53 = .ok (.isub, 1) := by decide +kernel
theorem dX0_addMan_54 : decode cX0_addMan 54 = .ok (.ireturn, 1) := by decide +kernel
theorem dX0_sizeOf_0 : decode cX0_sizeOf 0 = .ok (.iload_n 1, 1) := by decide +kernel
theorem dX0_sizeOf_1 : decode cX0_sizeOf 1 = .ok (.ifCond .lt 29, 3) := by decide +kernel
theorem dX0_sizeOf_4 : decode cX0_sizeOf 4 = .ok (.iload_n 1, 1) := by decide +kernel
theorem dX0_sizeOf_5 : decode cX0_sizeOf 5 = .ok (.aload_n 0, 1) := by decide +kernel
theorem dX0_sizeOf_6 : decode cX0_sizeOf 6 = .ok (.getfield 36, 3) := by decide +kernel
theorem dX0_sizeOf_9 : decode cX0_sizeOf 9 = .ok (.if_icmp .ge 21, 3) := by decide +kernel
theorem dX0_sizeOf_12 : decode cX0_sizeOf 12 = .ok (.iload_n 1, 1) := by decide +kernel
theorem dX0_sizeOf_13 : decode cX0_sizeOf 13 = .ok (.aload_n 0, 1) := by decide +kernel
theorem dX0_sizeOf_14 : decode cX0_sizeOf 14 = .ok (.getfield 11, 3) := by decide +kernel
theorem dX0_sizeOf_17 : decode cX0_sizeOf 17 = .ok (.arraylength, 1) := by decide +kernel
theorem dX0_sizeOf_18 : decode cX0_sizeOf 18 = .ok (.if_icmp .ge 12, 3) := by decide +kernel
theorem dX0_sizeOf_21 : decode cX0_sizeOf 21 = .ok (.aload_n 0, 1) := by decide +kernel
theorem dX0_sizeOf_22 : decode cX0_sizeOf 22 = .ok (.getfield 11, 3) := by decide +kernel
theorem dX0_sizeOf_25 : decode cX0_sizeOf 25 = .ok (.iload_n 1, 1) := by decide +kernel
theorem dX0_sizeOf_26 : decode cX0_sizeOf 26 = .ok (.iaload, 1) := by decide +kernel
theorem dX0_sizeOf_27 : decode cX0_sizeOf 27 = .ok (.goto 4, 3) := by decide +kernel
theorem dX0_sizeOf_30 : decode cX0_sizeOf 30 = .ok (.iconst 0, 1) := by decide +kernel
theorem dX0_sizeOf_31 : decode cX0_sizeOf 31 = .ok (.ireturn, 1) := by decide +kernel
theorem dX0_packedOf_0 : decode cX0_packedOf 0 = .ok (.iload_n 1, 1) := by decide +kernel
theorem dX0_packedOf_1 : decode cX0_packedOf 1 = .ok (.ifCond .lt 29, 3) := by decide +kernel
theorem dX0_packedOf_4 : decode cX0_packedOf 4 = .ok (.iload_n 1, 1) := by decide +kernel
theorem dX0_packedOf_5 : decode cX0_packedOf 5 = .ok (.aload_n 0, 1) := by decide +kernel
theorem dX0_packedOf_6 : decode cX0_packedOf 6 = .ok (.getfield 36, 3) := by decide +kernel
theorem dX0_packedOf_9 : decode cX0_packedOf 9 = .ok (.if_icmp .ge 21, 3) := by decide +kernel
theorem dX0_packedOf_12 : decode cX0_packedOf 12 = .ok (.iload_n 1, 1) := by decide +kernel
theorem dX0_packedOf_13 : decode cX0_packedOf 13 = .ok (.aload_n 0, 1) := by decide +kernel
theorem dX0_packedOf_14 : decode cX0_packedOf 14 = .ok (.getfield 15, 3) := by decide +kernel
theorem dX0_packedOf_17 : decode cX0_packedOf 17 = .ok (.arraylength, 1) := by decide +kernel
theorem dX0_packedOf_18 : decode cX0_packedOf 18 = .ok (.if_icmp .ge 12, 3) := by decide +kernel
theorem dX0_packedOf_21 : decode cX0_packedOf 21 = .ok (.aload_n 0, 1) := by decide +kernel
theorem dX0_packedOf_22 : decode cX0_packedOf 22 = .ok (.getfield 15, 3) := by decide +kernel
theorem dX0_packedOf_25 : decode cX0_packedOf 25 = .ok (.iload_n 1, 1) := by decide +kernel
theorem dX0_packedOf_26 : decode cX0_packedOf 26 = .ok (.iaload, 1) := by decide +kernel
theorem dX0_packedOf_27 : decode cX0_packedOf 27 = .ok (.goto 4, 3) := by decide +kernel
theorem dX0_packedOf_30 : decode cX0_packedOf 30 = .ok (.iconst 0, 1) := by decide +kernel
theorem dX0_packedOf_31 : decode cX0_packedOf 31 = .ok (.ireturn, 1) := by decide +kernel
theorem dX0_useOf_0 : decode cX0_useOf 0 = .ok (.iload_n 1, 1) := by decide +kernel
theorem dX0_useOf_1 : decode cX0_useOf 1 = .ok (.ifCond .lt 29, 3) := by decide +kernel
theorem dX0_useOf_4 : decode cX0_useOf 4 = .ok (.iload_n 1, 1) := by decide +kernel
theorem dX0_useOf_5 : decode cX0_useOf 5 = .ok (.aload_n 0, 1) := by decide +kernel
theorem dX0_useOf_6 : decode cX0_useOf 6 = .ok (.getfield 36, 3) := by decide +kernel
theorem dX0_useOf_9 : decode cX0_useOf 9 = .ok (.if_icmp .ge 21, 3) := by decide +kernel
theorem dX0_useOf_12 : decode cX0_useOf 12 = .ok (.iload_n 1, 1) := by decide +kernel
theorem dX0_useOf_13 : decode cX0_useOf 13 = .ok (.aload_n 0, 1) := by decide +kernel
theorem dX0_useOf_14 : decode cX0_useOf 14 = .ok (.getfield 18, 3) := by decide +kernel
theorem dX0_useOf_17 : decode cX0_useOf 17 = .ok (.arraylength, 1) := by decide +kernel
theorem dX0_useOf_18 : decode cX0_useOf 18 = .ok (.if_icmp .ge 12, 3) := by decide +kernel
theorem dX0_useOf_21 : decode cX0_useOf 21 = .ok (.aload_n 0, 1) := by decide +kernel
theorem dX0_useOf_22 : decode cX0_useOf 22 = .ok (.getfield 18, 3) := by decide +kernel
theorem dX0_useOf_25 : decode cX0_useOf 25 = .ok (.iload_n 1, 1) := by decide +kernel
theorem dX0_useOf_26 : decode cX0_useOf 26 = .ok (.iaload, 1) := by decide +kernel
theorem dX0_useOf_27 : decode cX0_useOf 27 = .ok (.goto 4, 3) := by decide +kernel
theorem dX0_useOf_30 : decode cX0_useOf 30 = .ok (.iconst 0, 1) := by decide +kernel
theorem dX0_useOf_31 : decode cX0_useOf 31 = .ok (.ireturn, 1) := by decide +kernel
theorem dX0_costOf_0 : decode cX0_costOf 0 = .ok (.iload_n 1, 1) := by decide +kernel
theorem dX0_costOf_1 : decode cX0_costOf 1 = .ok (.ifCond .lt 29, 3) := by decide +kernel
theorem dX0_costOf_4 : decode cX0_costOf 4 = .ok (.iload_n 1, 1) := by decide +kernel
theorem dX0_costOf_5 : decode cX0_costOf 5 = .ok (.aload_n 0, 1) := by decide +kernel
theorem dX0_costOf_6 : decode cX0_costOf 6 = .ok (.getfield 36, 3) := by decide +kernel
theorem dX0_costOf_9 : decode cX0_costOf 9 = .ok (.if_icmp .ge 21, 3) := by decide +kernel
theorem dX0_costOf_12 : decode cX0_costOf 12 = .ok (.iload_n 1, 1) := by decide +kernel
theorem dX0_costOf_13 : decode cX0_costOf 13 = .ok (.aload_n 0, 1) := by decide +kernel
theorem dX0_costOf_14 : decode cX0_costOf 14 = .ok (.getfield 21, 3) := by decide +kernel
theorem dX0_costOf_17 : decode cX0_costOf 17 = .ok (.arraylength, 1) := by decide +kernel
theorem dX0_costOf_18 : decode cX0_costOf 18 = .ok (.if_icmp .ge 12, 3) := by decide +kernel
theorem dX0_costOf_21 : decode cX0_costOf 21 = .ok (.aload_n 0, 1) := by decide +kernel
theorem dX0_costOf_22 : decode cX0_costOf 22 = .ok (.getfield 21, 3) := by decide +kernel
theorem dX0_costOf_25 : decode cX0_costOf 25 = .ok (.iload_n 1, 1) := by decide +kernel
theorem dX0_costOf_26 : decode cX0_costOf 26 = .ok (.iaload, 1) := by decide +kernel
theorem dX0_costOf_27 : decode cX0_costOf 27 = .ok (.goto 4, 3) := by decide +kernel
theorem dX0_costOf_30 : decode cX0_costOf 30 = .ok (.iconst 0, 1) := by decide +kernel
theorem dX0_costOf_31 : decode cX0_costOf 31 = .ok (.ireturn, 1) := by decide +kernel
theorem dX0_isNoteOf_0 : decode cX0_isNoteOf 0 = .ok (.iload_n 2, 1) := by decide +kernel
theorem dX0_isNoteOf_1 : decode cX0_isNoteOf 1 = .ok (.ifCond .lt 16, 3) := by decide +kernel
theorem dX0_isNoteOf_4 : decode cX0_isNoteOf 4 = .ok (.iload_n 2, 1) := by decide +kernel
theorem dX0_isNoteOf_5 : decode cX0_isNoteOf 5 = .ok (.aload_n 0, 1) := by decide +kernel
theorem dX0_isNoteOf_6 : decode cX0_isNoteOf 6 = .ok (.iload_n 1, 1) := by decide +kernel
theorem dX0_isNoteOf_7 : decode cX0_isNoteOf 7 = .ok (.invokevirtual 67, 3) := by decide +kernel
theorem dX0_isNoteOf_10 : decode cX0_isNoteOf 10 = .ok (.if_icmp .ge 7, 3) := by decide +kernel
theorem dX0_isNoteOf_13 : decode cX0_isNoteOf 13 = .ok (.iconst 1, 1) := by decide +kernel
theorem dX0_isNoteOf_14 : decode cX0_isNoteOf 14 = .ok (.goto 4, 3) := by decide +kernel
theorem dX0_isNoteOf_17 : decode cX0_isNoteOf 17 = .ok (.iconst 0, 1) := by decide +kernel
theorem dX0_isNoteOf_18 : decode cX0_isNoteOf 18 = .ok (.ireturn, 1) := by decide +kernel
theorem dX0_noteAt_0 : decode cX0_noteAt 0 = .ok (.iload_n 1, 1) := by decide +kernel
theorem dX0_noteAt_1 : decode cX0_noteAt 1 = .ok (.ifCond .lt 31, 3) := by decide +kernel
theorem dX0_noteAt_4 : decode cX0_noteAt 4 = .ok (.iload_n 1, 1) := by decide +kernel
theorem dX0_noteAt_5 : decode cX0_noteAt 5 = .ok (.aload_n 0, 1) := by decide +kernel
theorem dX0_noteAt_6 : decode cX0_noteAt 6 = .ok (.getfield 36, 3) := by decide +kernel
theorem dX0_noteAt_9 : decode cX0_noteAt 9 = .ok (.if_icmp .ge 23, 3) := by decide +kernel
theorem dX0_noteAt_12 : decode cX0_noteAt 12 = .ok (.iload_n 1, 1) := by decide +kernel
theorem dX0_noteAt_13 : decode cX0_noteAt 13 = .ok (.bipush 12, 2) := by decide +kernel
theorem dX0_noteAt_15 : decode cX0_noteAt 15 = .ok (.if_icmp .ge 17, 3) := by decide +kernel
theorem dX0_noteAt_18 : decode cX0_noteAt 18 = .ok (.iload_n 2, 1) := by decide +kernel
theorem dX0_noteAt_19 : decode cX0_noteAt 19 = .ok (.ifCond .lt 13, 3) := by decide +kernel
theorem dX0_noteAt_22 : decode cX0_noteAt 22 = .ok (.iload_n 2, 1) := by decide +kernel
theorem dX0_noteAt_23 : decode cX0_noteAt 23 = .ok (.aload_n 0, 1) := by decide +kernel
theorem dX0_noteAt_24 : decode cX0_noteAt 24 = .ok (.getfield 11, 3) := by decide +kernel
theorem dX0_noteAt_27 : decode cX0_noteAt 27 = .ok (.iload_n 1, 1) := by decide +kernel
theorem dX0_noteAt_28 : decode cX0_noteAt 28 = .ok (.iaload, 1) := by decide +kernel
theorem dX0_noteAt_29 : decode cX0_noteAt 29 = .ok (.if_icmp .lt 6, 3) := by decide +kernel
theorem dX0_noteAt_32 : decode cX0_noteAt 32 = .ok (.bipush 9, 2) := by decide +kernel
theorem dX0_noteAt_34 : decode cX0_noteAt 34 = .ok (.ireturn, 1) := by decide +kernel
theorem dX0_noteAt_35 : decode cX0_noteAt 35 = .ok (.aload_n 0, 1) := by decide +kernel
theorem dX0_noteAt_36 : decode cX0_noteAt 36 = .ok (.getfield 15, 3) := by decide +kernel
theorem dX0_noteAt_39 : decode cX0_noteAt 39 = .ok (.iload_n 1, 1) := by decide +kernel
theorem dX0_noteAt_40 : decode cX0_noteAt 40 = .ok (.iaload, 1) := by decide +kernel
theorem dX0_noteAt_41 : decode cX0_noteAt 41 = .ok (.iconst 3, 1) := by decide +kernel
theorem dX0_noteAt_42 : decode cX0_noteAt 42 = .ok (.iload_n 2, 1) := by decide +kernel
theorem dX0_noteAt_43 : decode cX0_noteAt 43 = .ok (.imul, 1) := by decide +kernel
theorem dX0_noteAt_44 : decode cX0_noteAt 44 = .ok (.ishr, 1) := by decide +kernel
theorem dX0_noteAt_45 : decode cX0_noteAt 45 = .ok (.bipush 7, 2) := by decide +kernel
theorem dX0_noteAt_47 : decode cX0_noteAt 47 = .ok (.iand, 1) := by decide +kernel
theorem dX0_noteAt_48 : decode cX0_noteAt 48 = .ok (.iconst 1, 1) := by decide +kernel
theorem dX0_noteAt_49 : decode cX0_noteAt 49 = .ok (.isub, 1) := by decide +kernel
theorem dX0_noteAt_50 : decode cX0_noteAt 50 = .ok (.ireturn, 1) := by decide +kernel
theorem dX0_kindOf_0 : decode cX0_kindOf 0 = .ok (.iload_n 1, 1) := by decide +kernel
theorem dX0_kindOf_1 : decode cX0_kindOf 1 = .ok (.ifCond .lt 29, 3) := by decide +kernel
theorem dX0_kindOf_4 : decode cX0_kindOf 4 = .ok (.iload_n 1, 1) := by decide +kernel
theorem dX0_kindOf_5 : decode cX0_kindOf 5 = .ok (.aload_n 0, 1) := by decide +kernel
theorem dX0_kindOf_6 : decode cX0_kindOf 6 = .ok (.getfield 40, 3) := by decide +kernel
theorem dX0_kindOf_9 : decode cX0_kindOf 9 = .ok (.if_icmp .ge 21, 3) := by decide +kernel
theorem dX0_kindOf_12 : decode cX0_kindOf 12 = .ok (.iload_n 1, 1) := by decide +kernel
theorem dX0_kindOf_13 : decode cX0_kindOf 13 = .ok (.aload_n 0, 1) := by decide +kernel
theorem dX0_kindOf_14 : decode cX0_kindOf 14 = .ok (.getfield 24, 3) := by decide +kernel
theorem dX0_kindOf_17 : decode cX0_kindOf 17 = .ok (.arraylength, 1) := by decide +kernel
theorem dX0_kindOf_18 : decode cX0_kindOf 18 = .ok (.if_icmp .ge 12, 3) := by decide +kernel
theorem dX0_kindOf_21 : decode cX0_kindOf 21 = .ok (.aload_n 0, 1) := by decide +kernel
theorem dX0_kindOf_22 : decode cX0_kindOf 22 = .ok (.getfield 24, 3) := by decide +kernel
theorem dX0_kindOf_25 : decode cX0_kindOf 25 = .ok (.iload_n 1, 1) := by decide +kernel
theorem dX0_kindOf_26 : decode cX0_kindOf 26 = .ok (.iaload, 1) := by decide +kernel
theorem dX0_kindOf_27 : decode cX0_kindOf 27 = .ok (.goto 4, 3) := by decide +kernel
theorem dX0_kindOf_30 : decode cX0_kindOf 30 = .ok (.iconst 0, 1) := by decide +kernel
theorem dX0_kindOf_31 : decode cX0_kindOf 31 = .ok (.ireturn, 1) := by decide +kernel
theorem dX0_strengthOf_0 : decode cX0_strengthOf 0 = .ok (.iload_n 1, 1) := by decide +kernel
theorem dX0_strengthOf_1 : decode cX0_strengthOf 1 = .ok (.ifCond .lt 29, 3) := by decide +kernel
theorem dX0_strengthOf_4 : decode cX0_strengthOf 4 = .ok (.iload_n 1, 1) := by decide +kernel
theorem dX0_strengthOf_5 : decode cX0_strengthOf 5 = .ok (.aload_n 0, 1) := by decide +kernel
theorem dX0_strengthOf_6 : decode cX0_strengthOf 6 = .ok (.getfield 40, 3) := by decide +kernel
theorem dX0_strengthOf_9 : decode cX0_strengthOf 9 = .ok (.if_icmp .ge 21, 3) := by decide +kernel
theorem dX0_strengthOf_12 : decode cX0_strengthOf 12 = .ok (.iload_n 1, 1) := by decide +kernel
theorem dX0_strengthOf_13 : decode cX0_strengthOf 13 = .ok (.aload_n 0, 1) := by decide +kernel
theorem dX0_strengthOf_14 : decode cX0_strengthOf 14 = .ok (.getfield 27, 3) := by decide +kernel
theorem dX0_strengthOf_17 : decode cX0_strengthOf 17 = .ok (.arraylength, 1) := by decide +kernel
theorem dX0_strengthOf_18 : decode cX0_strengthOf 18 = .ok (.if_icmp .ge 12, 3) := by decide +kernel
theorem dX0_strengthOf_21 : decode cX0_strengthOf 21 = .ok (.aload_n 0, 1) := by decide +kernel
theorem dX0_strengthOf_22 : decode cX0_strengthOf 22 = .ok (.getfield 27, 3) := by decide +kernel
theorem dX0_strengthOf_25 : decode cX0_strengthOf 25 = .ok (.iload_n 1, 1) := by decide +kernel
theorem dX0_strengthOf_26 : decode cX0_strengthOf 26 = .ok (.iaload, 1) := by decide +kernel
theorem dX0_strengthOf_27 : decode cX0_strengthOf 27 = .ok (.goto 4, 3) := by decide +kernel
theorem dX0_strengthOf_30 : decode cX0_strengthOf 30 = .ok (.iconst 0, 1) := by decide +kernel
theorem dX0_strengthOf_31 : decode cX0_strengthOf 31 = .ok (.ireturn, 1) := by decide +kernel
theorem dX0_earOfMan_0 : decode cX0_earOfMan 0 = .ok (.iload_n 1, 1) := by decide +kernel
theorem dX0_earOfMan_1 : decode cX0_earOfMan 1 = .ok (.ifCond .lt 29, 3) := by decide +kernel
theorem dX0_earOfMan_4 : decode cX0_earOfMan 4 = .ok (.iload_n 1, 1) := by decide +kernel
theorem dX0_earOfMan_5 : decode cX0_earOfMan 5 = .ok (.aload_n 0, 1) := by decide +kernel
theorem dX0_earOfMan_6 : decode cX0_earOfMan 6 = .ok (.getfield 43, 3) := by decide +kernel
theorem dX0_earOfMan_9 : decode cX0_earOfMan 9 = .ok (.if_icmp .ge 21, 3) := by decide +kernel
theorem dX0_earOfMan_12 : decode cX0_earOfMan 12 = .ok (.iload_n 1, 1) := by decide +kernel
theorem dX0_earOfMan_13 : decode cX0_earOfMan 13 = .ok (.aload_n 0, 1) := by decide +kernel
theorem dX0_earOfMan_14 : decode cX0_earOfMan 14 = .ok (.getfield 30, 3) := by decide +kernel
theorem dX0_earOfMan_17 : decode cX0_earOfMan 17 = .ok (.arraylength, 1) := by decide +kernel
theorem dX0_earOfMan_18 : decode cX0_earOfMan 18 = .ok (.if_icmp .ge 12, 3) := by decide +kernel
theorem dX0_earOfMan_21 : decode cX0_earOfMan 21 = .ok (.aload_n 0, 1) := by decide +kernel
theorem dX0_earOfMan_22 : decode cX0_earOfMan 22 = .ok (.getfield 30, 3) := by decide +kernel
theorem dX0_earOfMan_25 : decode cX0_earOfMan 25 = .ok (.iload_n 1, 1) := by decide +kernel
theorem dX0_earOfMan_26 : decode cX0_earOfMan 26 = .ok (.iaload, 1) := by decide +kernel
theorem dX0_earOfMan_27 : decode cX0_earOfMan 27 = .ok (.goto 4, 3) := by decide +kernel
theorem dX0_earOfMan_30 : decode cX0_earOfMan 30 = .ok (.iconst (-1), 1) := by decide +kernel
theorem dX0_earOfMan_31 : decode cX0_earOfMan 31 = .ok (.ireturn, 1) := by decide +kernel
theorem dX0_lookOf_0 : decode cX0_lookOf 0 = .ok (.iload_n 1, 1) := by decide +kernel
theorem dX0_lookOf_1 : decode cX0_lookOf 1 = .ok (.ifCond .lt 29, 3) := by decide +kernel
theorem dX0_lookOf_4 : decode cX0_lookOf 4 = .ok (.iload_n 1, 1) := by decide +kernel
theorem dX0_lookOf_5 : decode cX0_lookOf 5 = .ok (.aload_n 0, 1) := by decide +kernel
theorem dX0_lookOf_6 : decode cX0_lookOf 6 = .ok (.getfield 43, 3) := by decide +kernel
theorem dX0_lookOf_9 : decode cX0_lookOf 9 = .ok (.if_icmp .ge 21, 3) := by decide +kernel
theorem dX0_lookOf_12 : decode cX0_lookOf 12 = .ok (.iload_n 1, 1) := by decide +kernel
theorem dX0_lookOf_13 : decode cX0_lookOf 13 = .ok (.aload_n 0, 1) := by decide +kernel
theorem dX0_lookOf_14 : decode cX0_lookOf 14 = .ok (.getfield 33, 3) := by decide +kernel
theorem dX0_lookOf_17 : decode cX0_lookOf 17 = .ok (.arraylength, 1) := by decide +kernel
theorem dX0_lookOf_18 : decode cX0_lookOf 18 = .ok (.if_icmp .ge 12, 3) := by decide +kernel
theorem dX0_lookOf_21 : decode cX0_lookOf 21 = .ok (.aload_n 0, 1) := by decide +kernel
theorem dX0_lookOf_22 : decode cX0_lookOf 22 = .ok (.getfield 33, 3) := by decide +kernel
theorem dX0_lookOf_25 : decode cX0_lookOf 25 = .ok (.iload_n 1, 1) := by decide +kernel
theorem dX0_lookOf_26 : decode cX0_lookOf 26 = .ok (.iaload, 1) := by decide +kernel
theorem dX0_lookOf_27 : decode cX0_lookOf 27 = .ok (.goto 4, 3) := by decide +kernel
theorem dX0_lookOf_30 : decode cX0_lookOf 30 = .ok (.iconst 0, 1) := by decide +kernel
theorem dX0_lookOf_31 : decode cX0_lookOf 31 = .ok (.ireturn, 1) := by decide +kernel
theorem dX0_changeUse_0 : decode cX0_changeUse 0 = .ok (.aload_n 0, 1) := by decide +kernel
theorem dX0_changeUse_1 : decode cX0_changeUse 1 = .ok (.iload_n 1, 1) := by decide +kernel
theorem dX0_changeUse_2 : decode cX0_changeUse 2 = .ok (.invokevirtual 75, 3) := by decide +kernel
theorem dX0_changeUse_5 : decode cX0_changeUse 5 = .ok (.istore_n 3, 1) := by decide +kernel
theorem dX0_changeUse_6 : decode cX0_changeUse 6 = .ok (.iload_n 1, 1) := by decide +kernel
theorem dX0_changeUse_7 : decode cX0_changeUse 7 = .ok (.ifCond .lt 27, 3) := by decide +kernel
theorem dX0_changeUse_10 : decode cX0_changeUse 10 = .ok (.iload_n 1, 1) := by decide +kernel
theorem dX0_changeUse_11 : decode cX0_changeUse 11 = .ok (.aload_n 0, 1) := by decide +kernel
theorem dX0_changeUse_12 : decode cX0_changeUse 12 = .ok (.getfield 36, 3) := by decide +kernel
theorem dX0_changeUse_15 : decode cX0_changeUse 15 = .ok (.if_icmp .ge 19, 3) := by decide +kernel
theorem dX0_changeUse_18 : decode cX0_changeUse 18 = .ok (.iload_n 1, 1) := by decide +kernel
theorem dX0_changeUse_19 : decode cX0_changeUse 19 = .ok (.aload_n 0, 1) := by decide +kernel
theorem dX0_changeUse_20 : decode cX0_changeUse 20 = .ok (.getfield 18, 3) := by decide +kernel
theorem dX0_changeUse_23 : decode cX0_changeUse 23 = .ok (.arraylength, 1) := by decide +kernel
theorem dX0_changeUse_24 : decode cX0_changeUse 24 = .ok (.if_icmp .ge 10, 3) := by decide +kernel
theorem dX0_changeUse_27 : decode cX0_changeUse 27 = .ok (.aload_n 0, 1) := by decide +kernel
theorem dX0_changeUse_28 : decode cX0_changeUse 28 = .ok (.getfield 18, 3) := by decide +kernel
theorem dX0_changeUse_31 : decode cX0_changeUse 31 = .ok (.iload_n 1, 1) := by decide +kernel
theorem dX0_changeUse_32 : decode cX0_changeUse 32 = .ok (.iload_n 2, 1) := by decide +kernel
theorem dX0_changeUse_33 : decode cX0_changeUse 33 = .ok (.iastore, 1) := by decide +kernel
theorem dX0_changeUse_34 : decode cX0_changeUse 34 = .ok (.iload_n 3, 1) := by decide +kernel
theorem dX0_changeUse_35 : decode cX0_changeUse 35 = .ok (.ireturn, 1) := by decide +kernel
theorem dX0_changeCost_0 : decode cX0_changeCost 0 = .ok (.aload_n 0, 1) := by decide +kernel
theorem dX0_changeCost_1 : decode cX0_changeCost 1 = .ok (.iload_n 1, 1) := by decide +kernel
theorem dX0_changeCost_2 : decode cX0_changeCost 2 = .ok (.invokevirtual 78, 3) := by decide +kernel
theorem dX0_changeCost_5 : decode cX0_changeCost 5 = .ok (.istore_n 3, 1) := by decide +kernel
theorem dX0_changeCost_6 : decode cX0_changeCost 6 = .ok (.iload_n 1, 1) := by decide +kernel
theorem dX0_changeCost_7 : decode cX0_changeCost 7 = .ok (.ifCond .lt 27, 3) := by decide +kernel
theorem dX0_changeCost_10 : decode cX0_changeCost 10 = .ok (.iload_n 1, 1) := by decide +kernel
theorem dX0_changeCost_11 : decode cX0_changeCost 11 = .ok (.aload_n 0, 1) := by decide +kernel
theorem dX0_changeCost_12 : decode cX0_changeCost 12 = .ok (.getfield 36, 3) := by decide +kernel
theorem dX0_changeCost_15 : decode cX0_changeCost 15 = .ok (.if_icmp .ge 19, 3) := by decide +kernel
theorem dX0_changeCost_18 : decode cX0_changeCost 18 = .ok (.iload_n 1, 1) := by decide +kernel
theorem dX0_changeCost_19 : decode cX0_changeCost 19 = .ok (.aload_n 0, 1) := by decide +kernel
theorem dX0_changeCost_20 : decode cX0_changeCost 20 = .ok (.getfield 21, 3) := by decide +kernel
theorem dX0_changeCost_23 : decode cX0_changeCost 23 = .ok (.arraylength, 1) := by decide +kernel
theorem dX0_changeCost_24 : decode cX0_changeCost 24 = .ok (.if_icmp .ge 10, 3) := by decide +kernel
theorem dX0_changeCost_27 : decode cX0_changeCost 27 = .ok (.aload_n 0, 1) := by decide +kernel
theorem dX0_changeCost_28 : decode cX0_changeCost 28 = .ok (.getfield 21, 3) := by decide +kernel
theorem dX0_changeCost_31 : decode cX0_changeCost 31 = .ok (.iload_n 1, 1) := by decide +kernel
theorem dX0_changeCost_32 : decode cX0_changeCost 32 = .ok (.iload_n 2, 1) := by decide +kernel
theorem dX0_changeCost_33 : decode cX0_changeCost 33 = .ok (.iastore, 1) := by decide +kernel
theorem dX0_changeCost_34 : decode cX0_changeCost 34 = .ok (.iload_n 3, 1) := by decide +kernel
theorem dX0_changeCost_35 : decode cX0_changeCost 35 = .ok (.ireturn, 1) := by decide +kernel
theorem dX0_countNotes_0 : decode cX0_countNotes 0 = .ok (.iconst 0, 1) := by decide +kernel
theorem dX0_countNotes_1 : decode cX0_countNotes 1 = .ok (.istore_n 1, 1) := by decide +kernel
theorem dX0_countNotes_2 : decode cX0_countNotes 2 = .ok (.iconst 0, 1) := by decide +kernel
theorem dX0_countNotes_3 : decode cX0_countNotes 3 = .ok (.istore_n 2, 1) := by decide +kernel
theorem dX0_countNotes_4 : decode cX0_countNotes 4 = .ok (.iload_n 2, 1) := by decide +kernel
theorem dX0_countNotes_5 : decode cX0_countNotes 5 = .ok (.aload_n 0, 1) := by decide +kernel
theorem dX0_countNotes_6 : decode cX0_countNotes 6 = .ok (.getfield 36, 3) := by decide +kernel
theorem dX0_countNotes_9 : decode cX0_countNotes 9 = .ok (.if_icmp .ge 17, 3) := by decide +kernel
theorem dX0_countNotes_12 : decode cX0_countNotes 12 = .ok (.iload_n 1, 1) := by decide +kernel
theorem dX0_countNotes_13 : decode cX0_countNotes 13 = .ok (.aload_n 0, 1) := by decide +kernel
theorem dX0_countNotes_14 : decode cX0_countNotes 14 = .ok (.iload_n 2, 1) := by decide +kernel
theorem dX0_countNotes_15 : decode cX0_countNotes 15 = .ok (.invokevirtual 67, 3) := by decide +kernel
theorem dX0_countNotes_18 : decode cX0_countNotes 18 = .ok (.iadd, 1) := by decide +kernel
theorem dX0_countNotes_19 : decode cX0_countNotes 19 = .ok (.istore_n 1, 1) := by decide +kernel
theorem dX0_countNotes_20 : decode cX0_countNotes 20 = .ok (.iinc 2 1, 3) := by decide +kernel
theorem dX0_countNotes_23 : decode cX0_countNotes 23 = .ok (.goto (-19), 3) := by decide +kernel
theorem dX0_countNotes_26 : decode cX0_countNotes 26 = .ok (.iload_n 1, 1) := by decide +kernel
theorem dX0_countNotes_27 : decode cX0_countNotes 27 = .ok (.ireturn, 1) := by decide +kernel
theorem dX0_countNote_0 : decode cX0_countNote 0 = .ok (.iconst 0, 1) := by decide +kernel
theorem dX0_countNote_1 : decode cX0_countNote 1 = .ok (.istore_n 2, 1) := by decide +kernel
theorem dX0_countNote_2 : decode cX0_countNote 2 = .ok (.iconst 0, 1) := by decide +kernel
theorem dX0_countNote_3 : decode cX0_countNote 3 = .ok (.istore_n 3, 1) := by decide +kernel
theorem dX0_countNote_4 : decode cX0_countNote 4 = .ok (.iload_n 3, 1) := by decide +kernel
theorem dX0_countNote_5 : decode cX0_countNote 5 = .ok (.aload_n 0, 1) := by decide +kernel
theorem dX0_countNote_6 : decode cX0_countNote 6 = .ok (.getfield 36, 3) := by decide +kernel
theorem dX0_countNote_9 : decode cX0_countNote 9 = .ok (.if_icmp .ge 42, 3) := by decide +kernel
theorem dX0_countNote_12 : decode cX0_countNote 12 = .ok (.iconst 0, 1) := by decide +kernel
theorem dX0_countNote_13 : decode cX0_countNote 13 = .ok (.istore 4, 2) := by decide +kernel
theorem dX0_countNote_15 : decode cX0_countNote 15 = .ok (.iload 4, 2) := by decide +kernel
theorem dX0_countNote_17 : decode cX0_countNote 17 = .ok (.aload_n 0, 1) := by decide +kernel
theorem dX0_countNote_18 : decode cX0_countNote 18 = .ok (.iload_n 3, 1) := by decide +kernel
theorem dX0_countNote_19 : decode cX0_countNote 19 = .ok (.invokevirtual 67, 3) := by decide +kernel
theorem dX0_countNote_22 : decode cX0_countNote 22 = .ok (.if_icmp .ge 23, 3) := by decide +kernel
theorem dX0_countNote_25 : decode cX0_countNote 25 = .ok (.aload_n 0, 1) := by decide +kernel
theorem dX0_countNote_26 : decode cX0_countNote 26 = .ok (.iload_n 3, 1) := by decide +kernel
theorem dX0_countNote_27 : decode cX0_countNote 27 = .ok (.iload 4, 2) := by decide +kernel
theorem dX0_countNote_29 : decode cX0_countNote 29 = .ok (.invokevirtual 81, 3) := by decide +kernel
theorem dX0_countNote_32 : decode cX0_countNote 32 = .ok (.iload_n 1, 1) := by decide +kernel
theorem dX0_countNote_33 : decode cX0_countNote 33 = .ok (.if_icmp .ne 6, 3) := by decide +kernel
theorem dX0_countNote_36 : decode cX0_countNote 36 = .ok (.iinc 2 1, 3) := by decide +kernel
theorem dX0_countNote_39 : decode cX0_countNote 39 = .ok (.iinc 4 1, 3) := by decide +kernel
theorem dX0_countNote_42 : decode cX0_countNote 42 = .ok (.goto (-27), 3) := by decide +kernel
theorem dX0_countNote_45 : decode cX0_countNote 45 = .ok (.iinc 3 1, 3) := by decide +kernel
theorem dX0_countNote_48 : decode cX0_countNote 48 = .ok (.goto (-44), 3) := by decide +kernel
theorem dX0_countNote_51 : decode cX0_countNote 51 = .ok (.iload_n 2, 1) := by decide +kernel
theorem dX0_countNote_52 : decode cX0_countNote 52 = .ok (.ireturn, 1) := by decide +kernel
theorem dX0_sumUses_0 : decode cX0_sumUses 0 = .ok (.iconst 0, 1) := by decide +kernel
theorem dX0_sumUses_1 : decode cX0_sumUses 1 = .ok (.istore_n 1, 1) := by decide +kernel
theorem dX0_sumUses_2 : decode cX0_sumUses 2 = .ok (.iconst 0, 1) := by decide +kernel
theorem dX0_sumUses_3 : decode cX0_sumUses 3 = .ok (.istore_n 2, 1) := by decide +kernel
theorem dX0_sumUses_4 : decode cX0_sumUses 4 = .ok (.iload_n 2, 1) := by decide +kernel
theorem dX0_sumUses_5 : decode cX0_sumUses 5 = .ok (.aload_n 0, 1) := by decide +kernel
theorem dX0_sumUses_6 : decode cX0_sumUses 6 = .ok (.getfield 36, 3) := by decide +kernel
theorem dX0_sumUses_9 : decode cX0_sumUses 9 = .ok (.if_icmp .ge 17, 3) := by decide +kernel
theorem dX0_sumUses_12 : decode cX0_sumUses 12 = .ok (.iload_n 1, 1) := by decide +kernel
theorem dX0_sumUses_13 : decode cX0_sumUses 13 = .ok (.aload_n 0, 1) := by decide +kernel
theorem dX0_sumUses_14 : decode cX0_sumUses 14 = .ok (.iload_n 2, 1) := by decide +kernel
theorem dX0_sumUses_15 : decode cX0_sumUses 15 = .ok (.invokevirtual 75, 3) := by decide +kernel
theorem dX0_sumUses_18 : decode cX0_sumUses 18 = .ok (.iadd, 1) := by decide +kernel
theorem dX0_sumUses_19 : decode cX0_sumUses 19 = .ok (.istore_n 1, 1) := by decide +kernel
theorem dX0_sumUses_20 : decode cX0_sumUses 20 = .ok (.iinc 2 1, 3) := by decide +kernel
theorem dX0_sumUses_23 : decode cX0_sumUses 23 = .ok (.goto (-19), 3) := by decide +kernel
theorem dX0_sumUses_26 : decode cX0_sumUses 26 = .ok (.iload_n 1, 1) := by decide +kernel
theorem dX0_sumUses_27 : decode cX0_sumUses 27 = .ok (.ireturn, 1) := by decide +kernel
theorem dX0_countLookers_0 : decode cX0_countLookers 0 = .ok (.iconst 0, 1) := by decide +kernel
theorem dX0_countLookers_1 : decode cX0_countLookers 1 = .ok (.istore_n 1, 1) := by decide +kernel
theorem dX0_countLookers_2 : decode cX0_countLookers 2 = .ok (.iconst 0, 1) := by decide +kernel
theorem dX0_countLookers_3 : decode cX0_countLookers 3 = .ok (.istore_n 2, 1) := by decide +kernel
theorem dX0_countLookers_4 : decode cX0_countLookers 4 = .ok (.iload_n 2, 1) := by decide +kernel
theorem dX0_countLookers_5 : decode cX0_countLookers 5 = .ok (.aload_n 0, 1) := by decide +kernel
theorem dX0_countLookers_6 : decode cX0_countLookers 6 = .ok (.getfield 43, 3) := by decide +kernel
theorem dX0_countLookers_9 : decode cX0_countLookers 9 = .ok (.if_icmp .ge 17, 3) := by decide +kernel
theorem dX0_countLookers_12 : decode cX0_countLookers 12 = .ok (.iload_n 1, 1) := by decide +kernel
theorem dX0_countLookers_13 : decode cX0_countLookers 13 = .ok (.aload_n 0, 1) := by decide +kernel
theorem dX0_countLookers_14 : decode cX0_countLookers 14 = .ok (.iload_n 2, 1) := by decide +kernel
theorem dX0_countLookers_15 : decode cX0_countLookers 15 = .ok (.invokevirtual 84, 3) := by decide +kernel
theorem dX0_countLookers_18 : decode cX0_countLookers 18 = .ok (.iadd, 1) := by decide +kernel
theorem dX0_countLookers_19 : decode cX0_countLookers 19 = .ok (.istore_n 1, 1) := by decide +kernel
theorem dX0_countLookers_20 : decode cX0_countLookers 20 = .ok (.iinc 2 1, 3) := by decide +kernel
theorem dX0_countLookers_23 : decode cX0_countLookers 23 = .ok (.goto (-19), 3) := by decide +kernel
theorem dX0_countLookers_26 : decode cX0_countLookers 26 = .ok (.iload_n 1, 1) := by decide +kernel
theorem dX0_countLookers_27 : decode cX0_countLookers 27 = .ok (.ireturn, 1) := by decide +kernel
theorem dX0_learnedAt_0 : decode cX0_learnedAt 0 = .ok (.iconst 0, 1) := by decide +kernel
theorem dX0_learnedAt_1 : decode cX0_learnedAt 1 = .ok (.istore_n 2, 1) := by decide +kernel
theorem dX0_learnedAt_2 : decode cX0_learnedAt 2 = .ok (.iload_n 2, 1) := by decide +kernel
theorem dX0_learnedAt_3 : decode cX0_learnedAt 3 = .ok (.aload_n 0, 1) := by decide +kernel
theorem dX0_learnedAt_4 : decode cX0_learnedAt 4 = .ok (.getfield 36, 3) := by decide +kernel
theorem dX0_learnedAt_7 : decode cX0_learnedAt 7 = .ok (.if_icmp .ge 20, 3) := by decide +kernel
theorem dX0_learnedAt_10 : decode cX0_learnedAt 10 = .ok (.aload_n 0, 1) := by decide +kernel
theorem dX0_learnedAt_11 : decode cX0_learnedAt 11 = .ok (.iload_n 2, 1) := by decide +kernel
theorem dX0_learnedAt_12 : decode cX0_learnedAt 12 = .ok (.invokevirtual 87, 3) := by decide +kernel
theorem dX0_learnedAt_15 : decode cX0_learnedAt 15 = .ok (.iload_n 1, 1) := by decide +kernel
theorem dX0_learnedAt_16 : decode cX0_learnedAt 16 = .ok (.if_icmp .ne 5, 3) := by decide +kernel
theorem dX0_learnedAt_19 : decode cX0_learnedAt 19 = .ok (.iload_n 2, 1) := by decide +kernel
theorem dX0_learnedAt_20 : decode cX0_learnedAt 20 = .ok (.ireturn, 1) := by decide +kernel
theorem dX0_learnedAt_21 : decode cX0_learnedAt 21 = .ok (.iinc 2 1, 3) := by decide +kernel
theorem dX0_learnedAt_24 : decode cX0_learnedAt 24 = .ok (.goto (-22), 3) := by decide +kernel
theorem dX0_learnedAt_27 : decode cX0_learnedAt 27 = .ok (.iconst (-1), 1) := by decide +kernel
theorem dX0_learnedAt_28 : decode cX0_learnedAt 28 = .ok (.ireturn, 1) := by decide +kernel
theorem dX0_countLearnedAhead_0 : decode cX0_countLearnedAhead 0 = .ok (.aload_n 0, 1) := by decide +kernel
theorem dX0_countLearnedAhead_1 : decode cX0_countLearnedAhead 1 = .ok (.iload_n 1, 1) := by decide +kernel
theorem dX0_countLearnedAhead_2 : decode cX0_countLearnedAhead 2 = .ok (.invokevirtual 75, 3) := by decide +kernel
theorem dX0_countLearnedAhead_5 : decode cX0_countLearnedAhead 5 = .ok (.aload_n 0, 1) := by decide +kernel
theorem dX0_countLearnedAhead_6 : decode cX0_countLearnedAhead 6 = .ok (.iload_n 1, 1) := by decide +kernel
theorem dX0_countLearnedAhead_7 : decode cX0_countLearnedAhead 7 = .ok (.invokevirtual 78, 3) := by decide +kernel
theorem dX0_countLearnedAhead_10 : decode cX0_countLearnedAhead 10 = .ok (.imul, 1) := by decide +kernel
theorem dX0_countLearnedAhead_11 : decode cX0_countLearnedAhead 11 = .ok (.istore_n 2, 1) := by decide +kernel
theorem dX0_countLearnedAhead_12 : decode cX0_countLearnedAhead 12 = .ok (.iconst 0, 1) := by decide +kernel
theorem dX0_countLearnedAhead_13 : decode cX0_countLearnedAhead 13 = .ok (.istore_n 3, 1) := by decide +kernel
theorem dX0_countLearnedAhead_14 : decode cX0_countLearnedAhead 14 = .ok (.iconst 0, 1) := by decide +kernel
theorem dX0_countLearnedAhead_15 : decode cX0_countLearnedAhead 15 = .ok (.istore 4, 2) := by decide +kernel
theorem dX0_countLearnedAhead_17 : decode cX0_countLearnedAhead 17 = .ok (.iload 4, 2) := by decide +kernel
theorem dX0_countLearnedAhead_19 : decode cX0_countLearnedAhead 19 = .ok (.aload_n 0, 1) := by decide +kernel
theorem dX0_countLearnedAhead_20 : decode cX0_countLearnedAhead 20 = .ok (.getfield 36, 3) := by decide +kernel
theorem dX0_countLearnedAhead_23 : decode cX0_countLearnedAhead 23 = .ok (.if_icmp .ge 45, 3) := by decide +kernel
theorem dX0_countLearnedAhead_26 : decode cX0_countLearnedAhead 26 = .ok (.aload_n 0, 1) := by decide +kernel
theorem dX0_countLearnedAhead_27 : decode cX0_countLearnedAhead 27 = .ok (.iload 4, 2) := by decide +kernel
theorem dX0_countLearnedAhead_29 : decode cX0_countLearnedAhead 29 = .ok (.invokevirtual 75, 3) := by decide +kernel
theorem dX0_countLearnedAhead_32 : decode cX0_countLearnedAhead 32 = .ok (.aload_n 0, 1) := by decide +kernel
theorem dX0_countLearnedAhead_33 : decode cX0_countLearnedAhead 33 = .ok (.iload 4, 2) := by decide +kernel
theorem dX0_countLearnedAhead_35 : decode cX0_countLearnedAhead 35 = .ok (.invokevirtual 78, 3) := by decide +kernel
theorem dX0_countLearnedAhead_38 : decode cX0_countLearnedAhead 38 = .ok (.imul, 1) := by decide +kernel
theorem dX0_countLearnedAhead_39 : decode cX0_countLearnedAhead 39 = .ok (.istore 5, 2) := by decide +kernel
theorem dX0_countLearnedAhead_41 : decode cX0_countLearnedAhead 41 = .ok (.iload 5, 2) := by decide +kernel
theorem dX0_countLearnedAhead_43 : decode cX0_countLearnedAhead 43 = .ok (.iload_n 2, 1) := by decide +kernel
theorem dX0_countLearnedAhead_44 : decode cX0_countLearnedAhead 44 = .ok (.if_icmp .gt 15, 3) := by decide +kernel
theorem dX0_countLearnedAhead_47 : decode cX0_countLearnedAhead 47 = .ok (.iload 5, 2) := by decide +kernel
theorem dX0_countLearnedAhead_49 : decode cX0_countLearnedAhead 49 = .ok (.iload_n 2, 1) := by decide +kernel
theorem dX0_countLearnedAhead_50 : decode cX0_countLearnedAhead 50 = .ok (.if_icmp .ne 12, 3) := by decide +kernel
theorem dX0_countLearnedAhead_53 : decode cX0_countLearnedAhead 53 = .ok (.iload 4, 2) := by decide +kernel
theorem dX0_countLearnedAhead_55 : decode cX0_countLearnedAhead 55 = .ok (.iload_n 1, 1) := by decide +kernel
theorem dX0_countLearnedAhead_56 : decode cX0_countLearnedAhead 56 = .ok (.if_icmp .ge 6, 3) := by decide +kernel
theorem dX0_countLearnedAhead_59 : decode cX0_countLearnedAhead 59 = .ok (.iinc 3 1, 3) := by decide +kernel
theorem dX0_countLearnedAhead_62 : decode cX0_countLearnedAhead 62 = .ok (.iinc 4 1, 3) := by decide +kernel
theorem dX0_countLearnedAhead_65 : decode cX0_countLearnedAhead 65 = .ok (.goto (-48), 3) := by decide +kernel
theorem dX0_countLearnedAhead_68 : decode cX0_countLearnedAhead 68 = .ok (.iload_n 3, 1) := by decide +kernel
theorem dX0_countLearnedAhead_69 : decode cX0_countLearnedAhead 69 = .ok (.ireturn, 1) := by decide +kernel
theorem dX0_drawBelow_0 : decode cX0_drawBelow 0 = .ok (.aload_n 0, 1) := by decide +kernel
theorem dX0_drawBelow_1 : decode cX0_drawBelow 1 = .ok (.aload_n 0, 1) := by decide +kernel
theorem dX0_drawBelow_2 : decode cX0_drawBelow 2 = .ok (.getfield 52, 3) := by decide +kernel
theorem dX0_drawBelow_5 : decode cX0_drawBelow 5 = .ok (.ldc 90, 2) := by decide +kernel
theorem dX0_drawBelow_7 : decode cX0_drawBelow 7 = .ok (.imul, 1) := by decide +kernel
theorem dX0_drawBelow_8 : decode cX0_drawBelow 8 = .ok (.sipush 12345, 3) := by decide +kernel
theorem dX0_drawBelow_11 : decode cX0_drawBelow 11 = .ok (.iadd, 1) := by decide +kernel
theorem dX0_drawBelow_12 : decode cX0_drawBelow 12 = .ok (.putfield 52, 3) := by decide +kernel
theorem dX0_drawBelow_15 : decode cX0_drawBelow 15 = .ok (.iload_n 1, 1) := by decide +kernel
theorem dX0_drawBelow_16 : decode cX0_drawBelow 16 = .ok (.ifCond .le 15, 3) := by decide +kernel
theorem dX0_drawBelow_19 : decode cX0_drawBelow 19 = .ok (.aload_n 0, 1) := by decide +kernel
theorem dX0_drawBelow_20 : decode cX0_drawBelow 20 = .ok (.getfield 52, 3) := by decide +kernel
theorem dX0_drawBelow_23 : decode cX0_drawBelow 23 = .ok (.bipush 16, 2) := by decide +kernel
theorem dX0_drawBelow_25 : decode cX0_drawBelow 25 = .ok (.iushr, 1) := by decide +kernel
theorem dX0_drawBelow_26 : decode cX0_drawBelow 26 = .ok (.iload_n 1, 1) := by decide +kernel
theorem dX0_drawBelow_27 : decode cX0_drawBelow 27 = .ok (.irem, 1) := by decide +kernel
theorem dX0_drawBelow_28 : decode cX0_drawBelow 28 = .ok (.goto 4, 3) := by decide +kernel
theorem dX0_drawBelow_31 : decode cX0_drawBelow 31 = .ok (.iconst 0, 1) := by decide +kernel
theorem dX0_drawBelow_32 : decode cX0_drawBelow 32 = .ok (.ireturn, 1) := by decide +kernel
theorem dX1_init_0 : decode cX1_init 0 = .ok (.aload_n 0, 1) := by decide +kernel
theorem dX1_init_1 : decode cX1_init 1 = .ok (.invokespecial 3, 3) := by decide +kernel
theorem dX1_init_4 : decode cX1_init 4 = .ok (.aload_n 0, 1) := by decide +kernel
theorem dX1_init_5 : decode cX1_init 5 = .ok (.bipush 8, 2) := by decide +kernel
theorem dX1_init_7 : decode cX1_init 7 = .ok (.newarray .int, 2) := by decide +kernel
theorem dX1_init_9 : decode cX1_init 9 = .ok (.putfield 11, 3) := by decide +kernel
theorem dX1_init_12 : decode cX1_init 12 = .ok (.aload_n 0, 1) := by decide +kernel
theorem dX1_init_13 : decode cX1_init 13 = .ok (.bipush 8, 2) := by decide +kernel
theorem dX1_init_15 : decode cX1_init 15 = .ok (.newarray .int, 2) := by decide +kernel
theorem dX1_init_17 : decode cX1_init 17 = .ok (.putfield 17, 3) := by decide +kernel
theorem dX1_init_20 : decode cX1_init 20 = .ok (.aload_n 0, 1) := by decide +kernel
theorem dX1_init_21 : decode cX1_init 21 = .ok (.bipush 8, 2) := by decide +kernel
theorem dX1_init_23 : decode cX1_init 23 = .ok (.newarray .int, 2) := by decide +kernel
theorem dX1_init_25 : decode cX1_init 25 = .ok (.putfield 20, 3) := by decide +kernel
theorem dX1_init_28 : decode cX1_init 28 = .ok (.aload_n 0, 1) := by decide +kernel
theorem dX1_init_29 : decode cX1_init 29 = .ok (.bipush 12, 2) := by decide +kernel
theorem dX1_init_31 : decode cX1_init 31 = .ok (.newarray .int, 2) := by decide +kernel
theorem dX1_init_33 : decode cX1_init 33 = .ok (.putfield 23, 3) := by decide +kernel
theorem dX1_init_36 : decode cX1_init 36 = .ok (.aload_n 0, 1) := by decide +kernel
theorem dX1_init_37 : decode cX1_init 37 = .ok (.iconst 0, 1) := by decide +kernel
theorem dX1_init_38 : decode cX1_init 38 = .ok (.putfield 26, 3) := by decide +kernel
theorem dX1_init_41 : decode cX1_init 41 = .ok (.return_, 1) := by decide +kernel
theorem dX1_hearAndDo_0 : decode cX1_hearAndDo 0 = .ok (.aload_n 0, 1) := by decide +kernel
theorem dX1_hearAndDo_1 : decode cX1_hearAndDo 1 = .ok (.aload_n 1, 1) := by decide +kernel
theorem dX1_hearAndDo_2 : decode cX1_hearAndDo 2 = .ok (.aload_n 2, 1) := by decide +kernel
theorem dX1_hearAndDo_3 : decode cX1_hearAndDo 3 = .ok (.iload_n 3, 1) := by decide +kernel
theorem dX1_hearAndDo_4 : decode cX1_hearAndDo 4 = .ok (.invokevirtual 30, 3) := by decide +kernel
theorem dX1_hearAndDo_7 : decode cX1_hearAndDo 7 = .ok (.aload_n 0, 1) := by decide +kernel
theorem dX1_hearAndDo_8 : decode cX1_hearAndDo 8 = .ok (.aload_n 1, 1) := by decide +kernel
theorem dX1_hearAndDo_9 : decode cX1_hearAndDo 9 = .ok (.aload_n 1, 1) := by decide +kernel
theorem dX1_hearAndDo_10 : decode cX1_hearAndDo 10 = .ok (.getfield 34, 3) := by decide +kernel
theorem dX1_hearAndDo_13 : decode cX1_hearAndDo 13 = .ok (.invokevirtual 37, 3) := by decide +kernel
theorem dX1_hearAndDo_16 : decode cX1_hearAndDo 16 = .ok (.return_, 1) := by decide +kernel
theorem dX1_hearAll_0 : decode cX1_hearAll 0 = .ok (.aload_n 0, 1) := by decide +kernel
theorem dX1_hearAll_1 : decode cX1_hearAll 1 = .ok (.iconst 0, 1) := by decide +kernel
theorem dX1_hearAll_2 : decode cX1_hearAll 2 = .ok (.aload_n 1, 1) := by decide +kernel
theorem dX1_hearAll_3 : decode cX1_hearAll 3 = .ok (.getfield 41, 3) := by decide +kernel
theorem dX1_hearAll_6 : decode cX1_hearAll 6 = .ok (.bipush 8, 2) := by decide +kernel
theorem dX1_hearAll_8 : decode cX1_hearAll 8 = .ok (.invokestatic 42, 3) := by decide +kernel
theorem dX1_hearAll_11 : decode cX1_hearAll 11 = .ok (.invokestatic 48, 3) := by decide +kernel
theorem dX1_hearAll_14 : decode cX1_hearAll 14 = .ok (.putfield 26, 3) := by decide +kernel
theorem dX1_hearAll_17 : decode cX1_hearAll 17 = .ok (.iconst 0, 1) := by decide +kernel
theorem dX1_hearAll_18 : decode cX1_hearAll 18 = .ok (.istore 4, 2) := by decide +kernel
theorem dX1_hearAll_20 : decode cX1_hearAll 20 = .ok (.iload 4, 2) := by decide +kernel
theorem dX1_hearAll_22 : decode cX1_hearAll 22 = .ok (.aload_n 0, 1) := by decide +kernel
theorem dX1_hearAll_23 : decode cX1_hearAll 23 = .ok (.getfield 26, 3) := by decide +kernel
theorem dX1_hearAll_26 : decode cX1_hearAll 26 = .ok (.if_icmp .ge 67, 3) := by decide +kernel
theorem dX1_hearAll_29 : decode cX1_hearAll 29 = .ok (.aload_n 1, 1) := by decide +kernel
theorem dX1_hearAll_30 : decode cX1_hearAll 30 = .ok (.iload 4, 2) := by decide +kernel
theorem dX1_hearAll_32 : decode cX1_hearAll 32 = .ok (.invokevirtual 51, 3) := by decide +kernel
theorem dX1_hearAll_35 : decode cX1_hearAll 35 = .ok (.istore 5, 2) := by decide +kernel
theorem dX1_hearAll_37 : decode cX1_hearAll 37 = .ok (.aload_n 2, 1) := by decide +kernel
theorem dX1_hearAll_38 : decode cX1_hearAll 38 = .ok (.aload_n 1, 1) := by decide +kernel
theorem dX1_hearAll_39 : decode cX1_hearAll 39 = .ok (.iload_n 3, 1) := by decide +kernel
theorem dX1_hearAll_40 : decode cX1_hearAll 40 = .ok (.iload 5, 2) := by decide +kernel
theorem dX1_hearAll_42 : decode cX1_hearAll 42 = .ok (.invokevirtual 55, 3) := by decide +kernel
theorem dX1_hearAll_45 : decode cX1_hearAll 45 = .ok (.aload_n 0, 1) := by decide +kernel
theorem dX1_hearAll_46 : decode cX1_hearAll 46 = .ok (.getfield 11, 3) := by decide +kernel
theorem dX1_hearAll_49 : decode cX1_hearAll 49 = .ok (.iload 4, 2) := by decide +kernel
theorem dX1_hearAll_51 : decode cX1_hearAll 51 = .ok (.aload_n 1, 1) := by decide +kernel
theorem dX1_hearAll_52 : decode cX1_hearAll 52 = .ok (.aload_n 2, 1) := by decide +kernel
theorem dX1_hearAll_53 : decode cX1_hearAll 53 = .ok (.iload 5, 2) := by decide +kernel
theorem dX1_hearAll_55 : decode cX1_hearAll 55 = .ok (.invokestatic 61, 3) := by decide +kernel
theorem dX1_hearAll_58 : decode cX1_hearAll 58 = .ok (.iastore, 1) := by decide +kernel
theorem dX1_hearAll_59 : decode cX1_hearAll 59 = .ok (.aload_n 0, 1) := by decide +kernel
theorem dX1_hearAll_60 : decode cX1_hearAll 60 = .ok (.getfield 17, 3) := by decide +kernel
theorem dX1_hearAll_63 : decode cX1_hearAll 63 = .ok (.iload 4, 2) := by decide +kernel
theorem dX1_hearAll_65 : decode cX1_hearAll 65 = .ok (.aload_n 1, 1) := by decide +kernel
theorem dX1_hearAll_66 : decode cX1_hearAll 66 = .ok (.aload_n 0, 1) := by decide +kernel
theorem dX1_hearAll_67 : decode cX1_hearAll 67 = .ok (.getfield 11, 3) := by decide +kernel
theorem dX1_hearAll_70 : decode cX1_hearAll 70 = .ok (.iload 4, 2) := by decide +kernel
theorem dX1_hearAll_72 : decode cX1_hearAll 72 = .ok (.iaload, 1) := by decide +kernel
theorem dX1_hearAll_73 : decode cX1_hearAll 73 = .ok (.invokevirtual 67, 3) := by decide +kernel
theorem dX1_hearAll_76 : decode cX1_hearAll 76 = .ok (.aload_n 1, 1) := by decide +kernel
theorem dX1_hearAll_77 : decode cX1_hearAll 77 = .ok (.aload_n 2, 1) := by decide +kernel
theorem dX1_hearAll_78 : decode cX1_hearAll 78 = .ok (.iload 5, 2) := by decide +kernel
theorem dX1_hearAll_80 : decode cX1_hearAll 80 = .ok (.invokestatic 70, 3) := by decide +kernel
theorem dX1_hearAll_83 : decode cX1_hearAll 83 = .ok (.invokestatic 73, 3) := by decide +kernel
theorem dX1_hearAll_86 : decode cX1_hearAll 86 = .ok (.iastore, 1) := by decide +kernel
theorem dX1_hearAll_87 : decode cX1_hearAll 87 = .ok (.iinc 4 1, 3) := by decide +kernel
theorem dX1_hearAll_90 : decode cX1_hearAll 90 = .ok (.goto (-70), 3) := by decide +kernel
theorem dX1_hearAll_93 : decode cX1_hearAll 93 = .ok (.return_, 1) := by decide +kernel
theorem dX1_doAll_0 : decode cX1_doAll 0 = .ok (.aload_n 0, 1) := by decide +kernel
theorem dX1_doAll_1 : decode cX1_doAll 1 = .ok (.getfield 23, 3) := by decide +kernel
theorem dX1_doAll_4 : decode cX1_doAll 4 = .ok (.iconst 0, 1) := by decide +kernel
theorem dX1_doAll_5 : decode cX1_doAll 5 = .ok (.invokestatic 76, 3) := by decide +kernel
theorem dX1_doAll_8 : decode cX1_doAll 8 = .ok (.iconst 0, 1) := by decide +kernel
theorem dX1_doAll_9 : decode cX1_doAll 9 = .ok (.istore_n 3, 1) := by decide +kernel
theorem dX1_doAll_10 : decode cX1_doAll 10 = .ok (.iload_n 3, 1) := by decide +kernel
theorem dX1_doAll_11 : decode cX1_doAll 11 = .ok (.aload_n 0, 1) := by decide +kernel
theorem dX1_doAll_12 : decode cX1_doAll 12 = .ok (.getfield 26, 3) := by decide +kernel
theorem dX1_doAll_15 : decode cX1_doAll 15 = .ok (.if_icmp .ge 70, 3) := by decide +kernel
theorem dX1_doAll_18 : decode cX1_doAll 18 = .ok (.aload_n 0, 1) := by decide +kernel
theorem dX1_doAll_19 : decode cX1_doAll 19 = .ok (.getfield 20, 3) := by decide +kernel
theorem dX1_doAll_22 : decode cX1_doAll 22 = .ok (.iload_n 3, 1) := by decide +kernel
theorem dX1_doAll_23 : decode cX1_doAll 23 = .ok (.aload_n 0, 1) := by decide +kernel
theorem dX1_doAll_24 : decode cX1_doAll 24 = .ok (.getfield 11, 3) := by decide +kernel
theorem dX1_doAll_27 : decode cX1_doAll 27 = .ok (.iload_n 3, 1) := by decide +kernel
theorem dX1_doAll_28 : decode cX1_doAll 28 = .ok (.iaload, 1) := by decide +kernel
theorem dX1_doAll_29 : decode cX1_doAll 29 = .ok (.iastore, 1) := by decide +kernel
theorem dX1_doAll_30 : decode cX1_doAll 30 = .ok (.aload_n 0, 1) := by decide +kernel
theorem dX1_doAll_31 : decode cX1_doAll 31 = .ok (.getfield 17, 3) := by decide +kernel
theorem dX1_doAll_34 : decode cX1_doAll 34 = .ok (.iload_n 3, 1) := by decide +kernel
theorem dX1_doAll_35 : decode cX1_doAll 35 = .ok (.iaload, 1) := by decide +kernel
theorem dX1_doAll_36 : decode cX1_doAll 36 = .ok (.iload_n 2, 1) := by decide +kernel
theorem dX1_doAll_37 : decode cX1_doAll 37 = .ok (.if_icmp .ge 32, 3) := by decide +kernel
theorem dX1_doAll_40 : decode cX1_doAll 40 = .ok (.aload_n 1, 1) := by decide +kernel
theorem dX1_doAll_41 : decode cX1_doAll 41 = .ok (.iload_n 3, 1) := by decide +kernel
theorem dX1_doAll_42 : decode cX1_doAll 42 = .ok (.invokevirtual 82, 3) := by decide +kernel
theorem dX1_doAll_45 : decode cX1_doAll 45 = .ok (.iconst 1, 1) := by decide +kernel
theorem dX1_doAll_46 : decode cX1_doAll 46 = .ok (.if_icmp .ne 23, 3) := by decide +kernel
theorem dX1_doAll_49 : decode cX1_doAll 49 = .ok (.aload_n 0, 1) := by decide +kernel
theorem dX1_doAll_50 : decode cX1_doAll 50 = .ok (.invokevirtual 85, 3) := by decide +kernel
theorem dX1_doAll_53 : decode cX1_doAll 53 = .ok (.istore 4, 2) := by decide +kernel
theorem dX1_doAll_55 : decode cX1_doAll 55 = .ok (.iload 4, 2) := by decide +kernel
theorem dX1_doAll_57 : decode cX1_doAll 57 = .ok (.iconst (-1), 1) := by decide +kernel
theorem dX1_doAll_58 : decode cX1_doAll 58 = .ok (.if_icmp .eq 11, 3) := by decide +kernel
theorem dX1_doAll_61 : decode cX1_doAll 61 = .ok (.aload_n 0, 1) := by decide +kernel
theorem dX1_doAll_62 : decode cX1_doAll 62 = .ok (.getfield 20, 3) := by decide +kernel
theorem dX1_doAll_65 : decode cX1_doAll 65 = .ok (.iload_n 3, 1) := by decide +kernel
theorem dX1_doAll_66 : decode cX1_doAll 66 = .ok (.iload 4, 2) := by decide +kernel
theorem dX1_doAll_68 : decode cX1_doAll 68 = .ok (.iastore, 1) := by decide +kernel
theorem dX1_doAll_69 : decode cX1_doAll 69 = .ok (.aload_n 0, 1) := by decide +kernel
theorem dX1_doAll_70 : decode cX1_doAll 70 = .ok (.aload_n 0, 1) := by decide +kernel
theorem dX1_doAll_71 : decode cX1_doAll 71 = .ok (.getfield 20, 3) := by decide +kernel
theorem dX1_doAll_74 : decode cX1_doAll 74 = .ok (.iload_n 3, 1) := by decide +kernel
theorem dX1_doAll_75 : decode cX1_doAll 75 = .ok (.iaload, 1) := by decide +kernel
theorem dX1_doAll_76 : decode cX1_doAll 76 = .ok (.invokevirtual 89, 3) := by decide +kernel
theorem dX1_doAll_79 : decode cX1_doAll 79 = .ok (.iinc 3 1, 3) := by decide +kernel
theorem dX1_doAll_82 : decode cX1_doAll 82 = .ok (.goto (-72), 3) := by decide +kernel
theorem dX1_doAll_85 : decode cX1_doAll 85 = .ok (.return_, 1) := by decide +kernel
theorem dX1_countDeed_0 : decode cX1_countDeed 0 = .ok (.iload_n 1, 1) := by decide +kernel
theorem dX1_countDeed_1 : decode cX1_countDeed 1 = .ok (.ifCond .lt 22, 3) := by decide +kernel
theorem dX1_countDeed_4 : decode cX1_countDeed 4 = .ok (.iload_n 1, 1) := by decide +kernel
theorem dX1_countDeed_5 : decode cX1_countDeed 5 = .ok (.aload_n 0, 1) := by decide +kernel
theorem dX1_countDeed_6 : decode cX1_countDeed 6 = .ok (.getfield 23, 3) := by decide +kernel
theorem dX1_countDeed_9 : decode cX1_countDeed 9 = .ok (.arraylength, 1) := by decide +kernel
theorem dX1_countDeed_10 : decode cX1_countDeed 10 = .ok (.if_icmp .ge 13, 3) := by decide +kernel
theorem dX1_countDeed_13 : decode cX1_countDeed 13 = .ok (.aload_n 0, 1) := by decide +kernel
theorem dX1_countDeed_14 : decode cX1_countDeed 14 = .ok (.getfield 23, 3) := by decide +kernel
theorem dX1_countDeed_17 : decode cX1_countDeed 17 = .ok (.iload_n 1, 1) := by decide +kernel
theorem dX1_countDeed_18 : decode cX1_countDeed 18 = .ok (.dup2, 1) := by decide +kernel
theorem dX1_countDeed_19 : decode cX1_countDeed 19 = .ok (.iaload, 1) := by decide +kernel
theorem dX1_countDeed_20 : decode cX1_countDeed 20 = .ok (.iconst 1, 1) := by decide +kernel
theorem dX1_countDeed_21 : decode cX1_countDeed 21 = .ok (.iadd, 1) := by decide +kernel
theorem dX1_countDeed_22 : decode cX1_countDeed 22 = .ok (.iastore, 1) := by decide +kernel
theorem dX1_countDeed_23 : decode cX1_countDeed 23 = .ok (.return_, 1) := by decide +kernel
theorem dX1_mostDone_0 : decode cX1_mostDone 0 = .ok (.iconst (-1), 1) := by decide +kernel
theorem dX1_mostDone_1 : decode cX1_mostDone 1 = .ok (.istore_n 1, 1) := by decide +kernel
theorem dX1_mostDone_2 : decode cX1_mostDone 2 = .ok (.iconst 0, 1) := by decide +kernel
theorem dX1_mostDone_3 : decode cX1_mostDone 3 = .ok (.istore_n 2, 1) := by decide +kernel
theorem dX1_mostDone_4 : decode cX1_mostDone 4 = .ok (.iconst 0, 1) := by decide +kernel
theorem dX1_mostDone_5 : decode cX1_mostDone 5 = .ok (.istore_n 3, 1) := by decide +kernel
theorem dX1_mostDone_6 : decode cX1_mostDone 6 = .ok (.iload_n 3, 1) := by decide +kernel
theorem dX1_mostDone_7 : decode cX1_mostDone 7 = .ok (.aload_n 0, 1) := by decide +kernel
theorem dX1_mostDone_8 : decode cX1_mostDone 8 = .ok (.getfield 23, 3) := by decide +kernel
theorem dX1_mostDone_11 : decode cX1_mostDone 11 = .ok (.arraylength, 1) := by decide +kernel
theorem dX1_mostDone_12 : decode cX1_mostDone 12 = .ok (.if_icmp .ge 28, 3) := by decide +kernel
theorem dX1_mostDone_15 : decode cX1_mostDone 15 = .ok (.aload_n 0, 1) := by decide +kernel
theorem dX1_mostDone_16 : decode cX1_mostDone 16 = .ok (.getfield 23, 3) := by decide +kernel
theorem dX1_mostDone_19 : decode cX1_mostDone 19 = .ok (.iload_n 3, 1) := by decide +kernel
theorem dX1_mostDone_20 : decode cX1_mostDone 20 = .ok (.iaload, 1) := by decide +kernel
theorem dX1_mostDone_21 : decode cX1_mostDone 21 = .ok (.iload_n 2, 1) := by decide +kernel
theorem dX1_mostDone_22 : decode cX1_mostDone 22 = .ok (.if_icmp .le 12, 3) := by decide +kernel
theorem dX1_mostDone_25 : decode cX1_mostDone 25 = .ok (.iload_n 3, 1) := by decide +kernel
theorem dX1_mostDone_26 : decode cX1_mostDone 26 = .ok (.istore_n 1, 1) := by decide +kernel
theorem dX1_mostDone_27 : decode cX1_mostDone 27 = .ok (.aload_n 0, 1) := by decide +kernel
theorem dX1_mostDone_28 : decode cX1_mostDone 28 = .ok (.getfield 23, 3) := by decide +kernel
theorem dX1_mostDone_31 : decode cX1_mostDone 31 = .ok (.iload_n 3, 1) := by decide +kernel
theorem dX1_mostDone_32 : decode cX1_mostDone 32 = .ok (.iaload, 1) := by decide +kernel
theorem dX1_mostDone_33 : decode cX1_mostDone 33 = .ok (.istore_n 2, 1) := by decide +kernel
theorem dX1_mostDone_34 : decode cX1_mostDone 34 = .ok (.iinc 3 1, 3) := by decide +kernel
theorem dX1_mostDone_37 : decode cX1_mostDone 37 = .ok (.goto (-31), 3) := by decide +kernel
theorem dX1_mostDone_40 : decode cX1_mostDone 40 = .ok (.iload_n 1, 1) := by decide +kernel
theorem dX1_mostDone_41 : decode cX1_mostDone 41 = .ok (.ireturn, 1) := by decide +kernel
theorem dX1_deedOf_0 : decode cX1_deedOf 0 = .ok (.iload_n 1, 1) := by decide +kernel
theorem dX1_deedOf_1 : decode cX1_deedOf 1 = .ok (.ifCond .lt 29, 3) := by decide +kernel
theorem dX1_deedOf_4 : decode cX1_deedOf 4 = .ok (.iload_n 1, 1) := by decide +kernel
theorem dX1_deedOf_5 : decode cX1_deedOf 5 = .ok (.aload_n 0, 1) := by decide +kernel
theorem dX1_deedOf_6 : decode cX1_deedOf 6 = .ok (.getfield 26, 3) := by decide +kernel
theorem dX1_deedOf_9 : decode cX1_deedOf 9 = .ok (.if_icmp .ge 21, 3) := by decide +kernel
theorem dX1_deedOf_12 : decode cX1_deedOf 12 = .ok (.iload_n 1, 1) := by decide +kernel
theorem dX1_deedOf_13 : decode cX1_deedOf 13 = .ok (.aload_n 0, 1) := by decide +kernel
theorem dX1_deedOf_14 : decode cX1_deedOf 14 = .ok (.getfield 20, 3) := by decide +kernel
theorem dX1_deedOf_17 : decode cX1_deedOf 17 = .ok (.arraylength, 1) := by decide +kernel
theorem dX1_deedOf_18 : decode cX1_deedOf 18 = .ok (.if_icmp .ge 12, 3) := by decide +kernel
theorem dX1_deedOf_21 : decode cX1_deedOf 21 = .ok (.aload_n 0, 1) := by decide +kernel
theorem dX1_deedOf_22 : decode cX1_deedOf 22 = .ok (.getfield 20, 3) := by decide +kernel
theorem dX1_deedOf_25 : decode cX1_deedOf 25 = .ok (.iload_n 1, 1) := by decide +kernel
theorem dX1_deedOf_26 : decode cX1_deedOf 26 = .ok (.iaload, 1) := by decide +kernel
theorem dX1_deedOf_27 : decode cX1_deedOf 27 = .ok (.goto 4, 3) := by decide +kernel
theorem dX1_deedOf_30 : decode cX1_deedOf 30 = .ok (.iconst (-1), 1) := by decide +kernel
theorem dX1_deedOf_31 : decode cX1_deedOf 31 = .ok (.ireturn, 1) := by decide +kernel
theorem dX1_countDoing_0 : decode cX1_countDoing 0 = .ok (.iconst 0, 1) := by decide +kernel
theorem dX1_countDoing_1 : decode cX1_countDoing 1 = .ok (.istore_n 2, 1) := by decide +kernel
theorem dX1_countDoing_2 : decode cX1_countDoing 2 = .ok (.iconst 0, 1) := by decide +kernel
theorem dX1_countDoing_3 : decode cX1_countDoing 3 = .ok (.istore_n 3, 1) := by decide +kernel
theorem dX1_countDoing_4 : decode cX1_countDoing 4 = .ok (.iload_n 3, 1) := by decide +kernel
theorem dX1_countDoing_5 : decode cX1_countDoing 5 = .ok (.aload_n 0, 1) := by decide +kernel
theorem dX1_countDoing_6 : decode cX1_countDoing 6 = .ok (.getfield 26, 3) := by decide +kernel
theorem dX1_countDoing_9 : decode cX1_countDoing 9 = .ok (.if_icmp .ge 21, 3) := by decide +kernel
theorem dX1_countDoing_12 : decode cX1_countDoing 12 = .ok (.aload_n 0, 1) := by decide +kernel
theorem dX1_countDoing_13 : decode cX1_countDoing 13 = .ok (.iload_n 3, 1) := by decide +kernel
theorem dX1_countDoing_14 : decode cX1_countDoing 14 = .ok (.invokevirtual 93, 3) := by decide +kernel
theorem dX1_countDoing_17 : decode cX1_countDoing 17 = .ok (.iload_n 1, 1) := by decide +kernel
theorem dX1_countDoing_18 : decode cX1_countDoing 18 = .ok (.if_icmp .ne 6, 3) := by decide +kernel
theorem dX1_countDoing_21 : decode cX1_countDoing 21 = .ok (.iinc 2 1, 3) := by decide +kernel
theorem dX1_countDoing_24 : decode cX1_countDoing 24 = .ok (.iinc 3 1, 3) := by decide +kernel
theorem dX1_countDoing_27 : decode cX1_countDoing 27 = .ok (.goto (-23), 3) := by decide +kernel
theorem dX1_countDoing_30 : decode cX1_countDoing 30 = .ok (.iload_n 2, 1) := by decide +kernel
theorem dX1_countDoing_31 : decode cX1_countDoing 31 = .ok (.ireturn, 1) := by decide +kernel
theorem dX1_firstNotDoing_0 : decode cX1_firstNotDoing 0 = .ok (.iconst 0, 1) := by decide +kernel
theorem dX1_firstNotDoing_1 : decode cX1_firstNotDoing 1 = .ok (.istore_n 2, 1) := by decide +kernel
theorem dX1_firstNotDoing_2 : decode cX1_firstNotDoing 2 = .ok (.iload_n 2, 1) := by decide +kernel
theorem dX1_firstNotDoing_3 : decode cX1_firstNotDoing 3 = .ok (.aload_n 0, 1) := by decide +kernel
theorem dX1_firstNotDoing_4 : decode cX1_firstNotDoing 4 = .ok (.getfield 26, 3) := by decide +kernel
theorem dX1_firstNotDoing_7 : decode cX1_firstNotDoing 7 = .ok (.if_icmp .ge 29, 3) := by decide +kernel
theorem dX1_firstNotDoing_10 : decode cX1_firstNotDoing 10 = .ok (.aload_n 0, 1) := by decide +kernel
theorem dX1_firstNotDoing_11 : decode cX1_firstNotDoing 11 = .ok (.iload_n 2, 1) := by decide +kernel
theorem dX1_firstNotDoing_12 : decode cX1_firstNotDoing 12 = .ok (.invokevirtual 93, 3) := by decide +kernel
theorem dX1_firstNotDoing_15 : decode cX1_firstNotDoing 15 = .ok (.iconst (-1), 1) := by decide +kernel
theorem dX1_firstNotDoing_16 : decode cX1_firstNotDoing 16 = .ok (.if_icmp .eq 14, 3) := by decide +kernel
theorem dX1_firstNotDoing_19 : decode cX1_firstNotDoing 19 = .ok (.aload_n 0, 1) := by decide +kernel
theorem dX1_firstNotDoing_20 : decode cX1_firstNotDoing 20 = .ok (.iload_n 2, 1) := by decide +kernel
theorem dX1_firstNotDoing_21 : decode cX1_firstNotDoing 21 = .ok (.invokevirtual 93, 3) := by decide +kernel
theorem dX1_firstNotDoing_24 : decode cX1_firstNotDoing 24 = .ok (.iload_n 1, 1) := by decide +kernel
theorem dX1_firstNotDoing_25 : decode cX1_firstNotDoing 25 = .ok (.if_icmp .eq 5, 3) := by decide +kernel
theorem dX1_firstNotDoing_28 : decode cX1_firstNotDoing 28 = .ok (.iload_n 2, 1) := by decide +kernel
theorem dX1_firstNotDoing_29 : decode cX1_firstNotDoing 29 = .ok (.ireturn, 1) := by decide +kernel
theorem dX1_firstNotDoing_30 : decode cX1_firstNotDoing 30 = .ok (.iinc 2 1, 3) := by decide +kernel
theorem dX1_firstNotDoing_33 : decode cX1_firstNotDoing 33 = .ok (.goto (-31), 3) := by decide +kernel
theorem dX1_firstNotDoing_36 : decode cX1_firstNotDoing 36 = .ok (.iconst (-1), 1) := by decide +kernel
theorem dX1_firstNotDoing_37 : decode cX1_firstNotDoing 37 = .ok (.ireturn, 1) := by decide +kernel
theorem dX1_notByGuess_0 : decode cX1_notByGuess 0 = .ok (.iconst 0, 1) := by decide +kernel
theorem dX1_notByGuess_1 : decode cX1_notByGuess 1 = .ok (.istore_n 1, 1) := by decide +kernel
theorem dX1_notByGuess_2 : decode cX1_notByGuess 2 = .ok (.iconst 0, 1) := by decide +kernel
theorem dX1_notByGuess_3 : decode cX1_notByGuess 3 = .ok (.istore_n 2, 1) := by decide +kernel
theorem dX1_notByGuess_4 : decode cX1_notByGuess 4 = .ok (.iload_n 2, 1) := by decide +kernel
theorem dX1_notByGuess_5 : decode cX1_notByGuess 5 = .ok (.aload_n 0, 1) := by decide +kernel
theorem dX1_notByGuess_6 : decode cX1_notByGuess 6 = .ok (.getfield 26, 3) := by decide +kernel
theorem dX1_notByGuess_9 : decode cX1_notByGuess 9 = .ok (.if_icmp .ge 30, 3) := by decide +kernel
theorem dX1_notByGuess_12 : decode cX1_notByGuess 12 = .ok (.aload_n 0, 1) := by decide +kernel
theorem dX1_notByGuess_13 : decode cX1_notByGuess 13 = .ok (.getfield 20, 3) := by decide +kernel
theorem dX1_notByGuess_16 : decode cX1_notByGuess 16 = .ok (.iload_n 2, 1) := by decide +kernel
theorem dX1_notByGuess_17 : decode cX1_notByGuess 17 = .ok (.iaload, 1) := by decide +kernel
theorem dX1_notByGuess_18 : decode cX1_notByGuess 18 = .ok (.aload_n 0, 1) := by decide +kernel
theorem dX1_notByGuess_19 : decode cX1_notByGuess 19 = .ok (.getfield 11, 3) := by decide +kernel
theorem dX1_notByGuess_22 : decode cX1_notByGuess 22 = .ok (.iload_n 2, 1) := by decide +kernel
theorem dX1_notByGuess_23 : decode cX1_notByGuess 23 = .ok (.iaload, 1) := by decide +kernel
theorem dX1_notByGuess_24 : decode cX1_notByGuess 24 = .ok (.if_icmp .eq 9, 3) := by decide +kernel
theorem dX1_notByGuess_27 : decode cX1_notByGuess 27 = .ok (.iload_n 1, 1) := by decide +kernel
theorem dX1_notByGuess_28 : decode cX1_notByGuess 28 = .ok (.iconst 1, 1) := by decide +kernel
theorem dX1_notByGuess_29 : decode cX1_notByGuess 29 = .ok (.iload_n 2, 1) := by decide +kernel
theorem dX1_notByGuess_30 : decode cX1_notByGuess 30 = .ok (.ishl, 1) := by decide +kernel
theorem dX1_notByGuess_31 : decode cX1_notByGuess 31 = .ok (.ior, 1) := by decide +kernel
theorem dX1_notByGuess_32 : decode cX1_notByGuess 32 = .ok (.istore_n 1, 1) := by decide +kernel
theorem dX1_notByGuess_33 : decode cX1_notByGuess 33 = .ok (.iinc 2 1, 3) := by decide +kernel
theorem dX1_notByGuess_36 : decode cX1_notByGuess 36 = .ok (.goto (-32), 3) := by decide +kernel
theorem dX1_notByGuess_39 : decode cX1_notByGuess 39 = .ok (.iload_n 1, 1) := by decide +kernel
theorem dX1_notByGuess_40 : decode cX1_notByGuess 40 = .ok (.ireturn, 1) := by decide +kernel
theorem dX1_leastSure_0 : decode cX1_leastSure 0 = .ok (.aload_n 0, 1) := by decide +kernel
theorem dX1_leastSure_1 : decode cX1_leastSure 1 = .ok (.aload_n 1, 1) := by decide +kernel
theorem dX1_leastSure_2 : decode cX1_leastSure 2 = .ok (.aload_n 2, 1) := by decide +kernel
theorem dX1_leastSure_3 : decode cX1_leastSure 3 = .ok (.iload_n 3, 1) := by decide +kernel
theorem dX1_leastSure_4 : decode cX1_leastSure 4 = .ok (.invokevirtual 30, 3) := by decide +kernel
theorem dX1_leastSure_7 : decode cX1_leastSure 7 = .ok (.iconst 0, 1) := by decide +kernel
theorem dX1_leastSure_8 : decode cX1_leastSure 8 = .ok (.istore 4, 2) := by decide +kernel
theorem dX1_leastSure_10 : decode cX1_leastSure 10 = .ok (.iload 4, 2) := by decide +kernel
theorem dX1_leastSure_12 : decode cX1_leastSure 12 = .ok (.sipush 1000, 3) := by decide +kernel
theorem dX1_leastSure_15 : decode cX1_leastSure 15 = .ok (.if_icmp .gt 31, 3) := by decide +kernel
theorem dX1_leastSure_18 : decode cX1_leastSure 18 = .ok (.aload_n 0, 1) := by decide +kernel
theorem dX1_leastSure_19 : decode cX1_leastSure 19 = .ok (.aload_n 1, 1) := by decide +kernel
theorem dX1_leastSure_20 : decode cX1_leastSure 20 = .ok (.iload 4, 2) := by decide +kernel
theorem dX1_leastSure_22 : decode cX1_leastSure 22 = .ok (.invokevirtual 37, 3) := by decide +kernel
theorem dX1_leastSure_25 : decode cX1_leastSure 25 = .ok (.aload_n 0, 1) := by decide +kernel
theorem dX1_leastSure_26 : decode cX1_leastSure 26 = .ok (.iload_n 3, 1) := by decide +kernel
theorem dX1_leastSure_27 : decode cX1_leastSure 27 = .ok (.invokevirtual 96, 3) := by decide +kernel
theorem dX1_leastSure_30 : decode cX1_leastSure 30 = .ok (.aload_n 0, 1) := by decide +kernel
theorem dX1_leastSure_31 : decode cX1_leastSure 31 = .ok (.getfield 26, 3) := by decide +kernel
theorem dX1_leastSure_34 : decode cX1_leastSure 34 = .ok (.if_icmp .ne 6, 3) := by decide +kernel
theorem dX1_leastSure_37 : decode cX1_leastSure 37 = .ok (.iload 4, 2) := by decide +kernel
theorem dX1_leastSure_39 : decode cX1_leastSure 39 = .ok (.ireturn, 1) := by decide +kernel
theorem dX1_leastSure_40 : decode cX1_leastSure 40 = .ok (.iinc 4 10, 3) := by decide +kernel
theorem dX1_leastSure_43 : decode cX1_leastSure 43 = .ok (.goto (-33), 3) := by decide +kernel
theorem dX1_leastSure_46 : decode cX1_leastSure 46 = .ok (.iconst (-1), 1) := by decide +kernel
theorem dX1_leastSure_47 : decode cX1_leastSure 47 = .ok (.ireturn, 1) := by decide +kernel
theorem dX2_init_0 : decode cX2_init 0 = .ok (.aload_n 0, 1) := by decide +kernel
theorem dX2_init_1 : decode cX2_init 1 = .ok (.invokespecial 1, 3) := by decide +kernel
theorem dX2_init_4 : decode cX2_init 4 = .ok (.aload_n 0, 1) := by decide +kernel
theorem dX2_init_5 : decode cX2_init 5 = .ok (.bipush 8, 2) := by decide +kernel
theorem dX2_init_7 : decode cX2_init 7 = .ok (.newarray .int, 2) := by decide +kernel
theorem dX2_init_9 : decode cX2_init 9 = .ok (.putfield 9, 3) := by decide +kernel
theorem dX2_init_12 : decode cX2_init 12 = .ok (.aload_n 0, 1) := by decide +kernel
theorem dX2_init_13 : decode cX2_init 13 = .ok (.iconst 0, 1) := by decide +kernel
theorem dX2_init_14 : decode cX2_init 14 = .ok (.putfield 15, 3) := by decide +kernel
theorem dX2_init_17 : decode cX2_init 17 = .ok (.aload_n 0, 1) := by decide +kernel
theorem dX2_init_18 : decode cX2_init 18 = .ok (.iconst 0, 1) := by decide +kernel
theorem dX2_init_19 : decode cX2_init 19 = .ok (.putfield 19, 3) := by decide +kernel
theorem dX2_init_22 : decode cX2_init 22 = .ok (.return_, 1) := by decide +kernel
theorem dX2_noteAt_0 : decode cX2_noteAt 0 = .ok (.iload_n 1, 1) := by decide +kernel
theorem dX2_noteAt_1 : decode cX2_noteAt 1 = .ok (.ifCond .lt 29, 3) := by decide +kernel
theorem dX2_noteAt_4 : decode cX2_noteAt 4 = .ok (.iload_n 1, 1) := by decide +kernel
theorem dX2_noteAt_5 : decode cX2_noteAt 5 = .ok (.aload_n 0, 1) := by decide +kernel
theorem dX2_noteAt_6 : decode cX2_noteAt 6 = .ok (.getfield 15, 3) := by decide +kernel
theorem dX2_noteAt_9 : decode cX2_noteAt 9 = .ok (.if_icmp .ge 21, 3) := by decide +kernel
theorem dX2_noteAt_12 : decode cX2_noteAt 12 = .ok (.iload_n 1, 1) := by decide +kernel
theorem dX2_noteAt_13 : decode cX2_noteAt 13 = .ok (.aload_n 0, 1) := by decide +kernel
theorem dX2_noteAt_14 : decode cX2_noteAt 14 = .ok (.getfield 9, 3) := by decide +kernel
theorem dX2_noteAt_17 : decode cX2_noteAt 17 = .ok (.arraylength, 1) := by decide +kernel
theorem dX2_noteAt_18 : decode cX2_noteAt 18 = .ok (.if_icmp .ge 12, 3) := by decide +kernel
theorem dX2_noteAt_21 : decode cX2_noteAt 21 = .ok (.aload_n 0, 1) := by decide +kernel
theorem dX2_noteAt_22 : decode cX2_noteAt 22 = .ok (.getfield 9, 3) := by decide +kernel
theorem dX2_noteAt_25 : decode cX2_noteAt 25 = .ok (.iload_n 1, 1) := by decide +kernel
theorem dX2_noteAt_26 : decode cX2_noteAt 26 = .ok (.iaload, 1) := by decide +kernel
theorem dX2_noteAt_27 : decode cX2_noteAt 27 = .ok (.goto 5, 3) := by decide +kernel
theorem dX2_noteAt_30 : decode cX2_noteAt 30 = .ok (.bipush 9, 2) := by decide +kernel
theorem dX2_noteAt_32 : decode cX2_noteAt 32 = .ok (.ireturn, 1) := by decide +kernel
theorem dX2_cutTo_0 : decode cX2_cutTo 0 = .ok (.aload_n 0, 1) := by decide +kernel
theorem dX2_cutTo_1 : decode cX2_cutTo 1 = .ok (.iconst 0, 1) := by decide +kernel
theorem dX2_cutTo_2 : decode cX2_cutTo 2 = .ok (.iload_n 1, 1) := by decide +kernel
theorem dX2_cutTo_3 : decode cX2_cutTo 3 = .ok (.aload_n 0, 1) := by decide +kernel
theorem dX2_cutTo_4 : decode cX2_cutTo 4 = .ok (.getfield 9, 3) := by decide +kernel
theorem dX2_cutTo_7 : decode cX2_cutTo 7 = .ok (.arraylength, 1) := by decide +kernel
theorem dX2_cutTo_8 : decode cX2_cutTo 8 = .ok (.invokestatic 23, 3) := by decide +kernel
theorem dX2_cutTo_11 : decode cX2_cutTo 11 = .ok (.invokestatic 29, 3) := by decide +kernel
theorem dX2_cutTo_14 : decode cX2_cutTo 14 = .ok (.putfield 15, 3) := by decide +kernel
theorem dX2_cutTo_17 : decode cX2_cutTo 17 = .ok (.aload_n 0, 1) := by decide +kernel
theorem dX2_cutTo_18 : decode cX2_cutTo 18 = .ok (.iload_n 2, 1) := by decide +kernel
theorem dX2_cutTo_19 : decode cX2_cutTo 19 = .ok (.putfield 19, 3) := by decide +kernel
theorem dX2_cutTo_22 : decode cX2_cutTo 22 = .ok (.return_, 1) := by decide +kernel
theorem dX2_putNote_0 : decode cX2_putNote 0 = .ok (.iload_n 1, 1) := by decide +kernel
theorem dX2_putNote_1 : decode cX2_putNote 1 = .ok (.ifCond .lt 19, 3) := by decide +kernel
theorem dX2_putNote_4 : decode cX2_putNote 4 = .ok (.iload_n 1, 1) := by decide +kernel
theorem dX2_putNote_5 : decode cX2_putNote 5 = .ok (.aload_n 0, 1) := by decide +kernel
theorem dX2_putNote_6 : decode cX2_putNote 6 = .ok (.getfield 9, 3) := by decide +kernel
theorem dX2_putNote_9 : decode cX2_putNote 9 = .ok (.arraylength, 1) := by decide +kernel
theorem dX2_putNote_10 : decode cX2_putNote 10 = .ok (.if_icmp .ge 10, 3) := by decide +kernel
theorem dX2_putNote_13 : decode cX2_putNote 13 = .ok (.aload_n 0, 1) := by decide +kernel
theorem dX2_putNote_14 : decode cX2_putNote 14 = .ok (.getfield 9, 3) := by decide +kernel
theorem dX2_putNote_17 : decode cX2_putNote 17 = .ok (.iload_n 1, 1) := by decide +kernel
theorem dX2_putNote_18 : decode cX2_putNote 18 = .ok (.iload_n 2, 1) := by decide +kernel
theorem dX2_putNote_19 : decode cX2_putNote 19 = .ok (.iastore, 1) := by decide +kernel
theorem dX2_putNote_20 : decode cX2_putNote 20 = .ok (.return_, 1) := by decide +kernel
theorem dX2_takeShelf_0 : decode cX2_takeShelf 0 = .ok (.aload_n 0, 1) := by decide +kernel
theorem dX2_takeShelf_1 : decode cX2_takeShelf 1 = .ok (.iload_n 2, 1) := by decide +kernel
theorem dX2_takeShelf_2 : decode cX2_takeShelf 2 = .ok (.iload_n 3, 1) := by decide +kernel
theorem dX2_takeShelf_3 : decode cX2_takeShelf 3 = .ok (.invokevirtual 32, 3) := by decide +kernel
theorem dX2_takeShelf_6 : decode cX2_takeShelf 6 = .ok (.iconst 0, 1) := by decide +kernel
theorem dX2_takeShelf_7 : decode cX2_takeShelf 7 = .ok (.istore 4, 2) := by decide +kernel
theorem dX2_takeShelf_9 : decode cX2_takeShelf 9 = .ok (.iload 4, 2) := by decide +kernel
theorem dX2_takeShelf_11 : decode cX2_takeShelf 11 = .ok (.aload_n 0, 1) := by decide +kernel
theorem dX2_takeShelf_12 : decode cX2_takeShelf 12 = .ok (.getfield 15, 3) := by decide +kernel
theorem dX2_takeShelf_15 : decode cX2_takeShelf 15 = .ok (.if_icmp .ge 22, 3) := by decide +kernel
theorem dX2_takeShelf_18 : decode cX2_takeShelf 18 = .ok (.aload_n 0, 1) := by decide +kernel
theorem dX2_takeShelf_19 : decode cX2_takeShelf 19 = .ok (.iload 4, 2) := by decide +kernel
theorem dX2_takeShelf_21 : decode cX2_takeShelf 21 = .ok (.aload_n 1, 1) := by decide +kernel
theorem dX2_takeShelf_22 : decode cX2_takeShelf 22 = .ok (.iload 4, 2) := by decide +kernel
theorem dX2_takeShelf_24 : decode cX2_takeShelf 24 = .ok (.invokevirtual 36, 3) := by decide +kernel
theorem dX2_takeShelf_27 : decode cX2_takeShelf 27 = .ok (.l2i, 1) := by decide +kernel
theorem dX2_takeShelf_28 : decode cX2_takeShelf 28 = .ok (.invokevirtual 42, 3) := by decide +kernel
theorem dX2_takeShelf_31 : decode cX2_takeShelf 31 = .ok (.iinc 4 1, 3) := by decide +kernel
theorem dX2_takeShelf_34 : decode cX2_takeShelf 34 = .ok (.goto (-25), 3) := by decide +kernel
theorem dX2_takeShelf_37 : decode cX2_takeShelf 37 = .ok (.return_, 1) := by decide +kernel
theorem dX2_takeCall_0 : decode cX2_takeCall 0 = .ok (.aload_n 0, 1) := by decide +kernel
theorem dX2_takeCall_1 : decode cX2_takeCall 1 = .ok (.aload_n 1, 1) := by decide +kernel
theorem dX2_takeCall_2 : decode cX2_takeCall 2 = .ok (.iload_n 2, 1) := by decide +kernel
theorem dX2_takeCall_3 : decode cX2_takeCall 3 = .ok (.invokevirtual 46, 3) := by decide +kernel
theorem dX2_takeCall_6 : decode cX2_takeCall 6 = .ok (.iconst 1, 1) := by decide +kernel
theorem dX2_takeCall_7 : decode cX2_takeCall 7 = .ok (.invokevirtual 32, 3) := by decide +kernel
theorem dX2_takeCall_10 : decode cX2_takeCall 10 = .ok (.iconst 0, 1) := by decide +kernel
theorem dX2_takeCall_11 : decode cX2_takeCall 11 = .ok (.istore 4, 2) := by decide +kernel
theorem dX2_takeCall_13 : decode cX2_takeCall 13 = .ok (.iload 4, 2) := by decide +kernel
theorem dX2_takeCall_15 : decode cX2_takeCall 15 = .ok (.aload_n 0, 1) := by decide +kernel
theorem dX2_takeCall_16 : decode cX2_takeCall 16 = .ok (.getfield 15, 3) := by decide +kernel
theorem dX2_takeCall_19 : decode cX2_takeCall 19 = .ok (.if_icmp .ge 23, 3) := by decide +kernel
theorem dX2_takeCall_22 : decode cX2_takeCall 22 = .ok (.aload_n 0, 1) := by decide +kernel
theorem dX2_takeCall_23 : decode cX2_takeCall 23 = .ok (.iload 4, 2) := by decide +kernel
theorem dX2_takeCall_25 : decode cX2_takeCall 25 = .ok (.aload_n 1, 1) := by decide +kernel
theorem dX2_takeCall_26 : decode cX2_takeCall 26 = .ok (.iload_n 2, 1) := by decide +kernel
theorem dX2_takeCall_27 : decode cX2_takeCall 27 = .ok (.iload_n 3, 1) := by decide +kernel
theorem dX2_takeCall_28 : decode cX2_takeCall 28 = .ok (.iload 4, 2) := by decide +kernel
theorem dX2_takeCall_30 : decode cX2_takeCall 30 = .ok (.invokestatic 50, 3) := by decide +kernel
theorem dX2_takeCall_33 : decode cX2_takeCall 33 = .ok (.invokevirtual 42, 3) := by decide +kernel
theorem dX2_takeCall_36 : decode cX2_takeCall 36 = .ok (.iinc 4 1, 3) := by decide +kernel
theorem dX2_takeCall_39 : decode cX2_takeCall 39 = .ok (.goto (-26), 3) := by decide +kernel
theorem dX2_takeCall_42 : decode cX2_takeCall 42 = .ok (.return_, 1) := by decide +kernel
theorem dX2_takeSounded_0 : decode cX2_takeSounded 0 = .ok (.aload_n 0, 1) := by decide +kernel
theorem dX2_takeSounded_1 : decode cX2_takeSounded 1 = .ok (.aload_n 1, 1) := by decide +kernel
theorem dX2_takeSounded_2 : decode cX2_takeSounded 2 = .ok (.iload_n 2, 1) := by decide +kernel
theorem dX2_takeSounded_3 : decode cX2_takeSounded 3 = .ok (.invokevirtual 46, 3) := by decide +kernel
theorem dX2_takeSounded_6 : decode cX2_takeSounded 6 = .ok (.iconst 1, 1) := by decide +kernel
theorem dX2_takeSounded_7 : decode cX2_takeSounded 7 = .ok (.invokevirtual 32, 3) := by decide +kernel
theorem dX2_takeSounded_10 : decode cX2_takeSounded 10 = .ok (.iconst 0, 1) := by decide +kernel
theorem dX2_takeSounded_11 : decode cX2_takeSounded 11 = .ok (.istore_n 3, 1) := by decide +kernel
theorem dX2_takeSounded_12 : decode cX2_takeSounded 12 = .ok (.iconst 0, 1) := by decide +kernel
theorem dX2_takeSounded_13 : decode cX2_takeSounded 13 = .ok (.istore 4, 2) := by decide +kernel
theorem dX2_takeSounded_15 : decode cX2_takeSounded 15 = .ok (.iload 4, 2) := by decide +kernel
theorem dX2_takeSounded_17 : decode cX2_takeSounded 17 = .ok (.aload_n 0, 1) := by decide +kernel
theorem dX2_takeSounded_18 : decode cX2_takeSounded 18 = .ok (.getfield 15, 3) := by decide +kernel
theorem dX2_takeSounded_21 : decode cX2_takeSounded 21 = .ok (.if_icmp .ge 60, 3) := by decide +kernel
theorem dX2_takeSounded_24 : decode cX2_takeSounded 24 = .ok (.aload_n 1, 1) := by decide +kernel
theorem dX2_takeSounded_25 : decode cX2_takeSounded 25 = .ok (.bipush 100, 2) := by decide +kernel
theorem dX2_takeSounded_27 : decode cX2_takeSounded 27 = .ok (.invokevirtual 56, 3) := by decide +kernel
theorem dX2_takeSounded_30 : decode cX2_takeSounded 30 = .ok (.aload_n 1, 1) := by decide +kernel
theorem dX2_takeSounded_31 : decode cX2_takeSounded 31 = .ok (.getfield 59, 3) := by decide +kernel
theorem dX2_takeSounded_34 : decode cX2_takeSounded 34 = .ok (.if_icmp .ge 7, 3) := by decide +kernel
theorem dX2_takeSounded_37 : decode cX2_takeSounded 37 = .ok (.iconst 1, 1) := by decide +kernel
theorem dX2_takeSounded_38 : decode cX2_takeSounded 38 = .ok (.goto 4, 3) := by decide +kernel
theorem dX2_takeSounded_41 : decode cX2_takeSounded 41 = .ok (.iconst 0, 1) := by decide +kernel
theorem dX2_takeSounded_42 : decode cX2_takeSounded 42 = .ok (.istore 5, 2) := by decide +kernel
theorem dX2_takeSounded_44 : decode cX2_takeSounded 44 = .ok (.aload_n 0, 1) := by decide +kernel
theorem dX2_takeSounded_45 : decode cX2_takeSounded 45 = .ok (.iload 4, 2) := by decide +kernel
theorem dX2_takeSounded_47 : decode cX2_takeSounded 47 = .ok (.iload 5, 2) := by decide +kernel
theorem dX2_takeSounded_49 : decode cX2_takeSounded 49 = .ok (.ifCond .eq 8, 3) := by decide +kernel
theorem dX2_takeSounded_52 : decode cX2_takeSounded 52 = .ok (.bipush 9, 2) := by decide +kernel
theorem dX2_takeSounded_54 : decode cX2_takeSounded 54 = .ok (.goto 10, 3) := by decide +kernel
theorem dX2_takeSounded_57 : decode cX2_takeSounded 57 = .ok (.aload_n 1, 1) := by decide +kernel
theorem dX2_takeSounded_58 : decode cX2_takeSounded 58 = .ok (.iload_n 2, 1) := by decide +kernel
theorem dX2_takeSounded_59 : decode cX2_takeSounded 59 = .ok (.iload 4, 2) := by decide +kernel
theorem dX2_takeSounded_61 : decode cX2_takeSounded 61 = .ok (.invokevirtual 62, 3) := by decide +kernel
theorem dX2_takeSounded_64 : decode cX2_takeSounded 64 = .ok (.invokevirtual 42, 3) := by decide +kernel
theorem dX2_takeSounded_67 : decode cX2_takeSounded 67 = .ok (.iload 5, 2) := by decide +kernel
theorem dX2_takeSounded_69 : decode cX2_takeSounded 69 = .ok (.ifCond .eq 6, 3) := by decide +kernel
theorem dX2_takeSounded_72 : decode cX2_takeSounded 72 = .ok (.iinc 3 1, 3) := by decide +kernel
theorem dX2_takeSounded_75 : decode cX2_takeSounded 75 = .ok (.iinc 4 1, 3) := by decide +kernel
theorem dX2_takeSounded_78 : decode cX2_takeSounded 78 = .ok (.goto (-63), 3) := by decide +kernel
theorem dX2_takeSounded_81 : decode cX2_takeSounded 81 = .ok (.iload_n 3, 1) := by decide +kernel
theorem dX2_takeSounded_82 : decode cX2_takeSounded 82 = .ok (.ireturn, 1) := by decide +kernel
theorem dX3_isKind_0 : decode cX3_isKind 0 = .ok (.iload_n 0, 1) := by decide +kernel
theorem dX3_isKind_1 : decode cX3_isKind 1 = .ok (.ifCond .lt 12, 3) := by decide +kernel
theorem dX3_isKind_4 : decode cX3_isKind 4 = .ok (.iload_n 0, 1) := by decide +kernel
theorem dX3_isKind_5 : decode cX3_isKind 5 = .ok (.iconst 5, 1) := by decide +kernel
theorem dX3_isKind_6 : decode cX3_isKind 6 = .ok (.if_icmp .gt 7, 3) := by decide +kernel
theorem dX3_isKind_9 : decode cX3_isKind 9 = .ok (.iconst 1, 1) := by decide +kernel
theorem dX3_isKind_10 : decode cX3_isKind 10 = .ok (.goto 4, 3) := by decide +kernel
theorem dX3_isKind_13 : decode cX3_isKind 13 = .ok (.iconst 0, 1) := by decide +kernel
theorem dX3_isKind_14 : decode cX3_isKind 14 = .ok (.ireturn, 1) := by decide +kernel
theorem dX3_isStrength_0 : decode cX3_isStrength 0 = .ok (.iload_n 0, 1) := by decide +kernel
theorem dX3_isStrength_1 : decode cX3_isStrength 1 = .ok (.ifCond .lt 13, 3) := by decide +kernel
theorem dX3_isStrength_4 : decode cX3_isStrength 4 = .ok (.iload_n 0, 1) := by decide +kernel
theorem dX3_isStrength_5 : decode cX3_isStrength 5 = .ok (.bipush 9, 2) := by decide +kernel
theorem dX3_isStrength_7 : decode cX3_isStrength 7 = .ok (.if_icmp .gt 7, 3) := by decide +kernel
theorem dX3_isStrength_10 : decode cX3_isStrength 10 = .ok (.iconst 1, 1) := by decide +kernel
theorem dX3_isStrength_11 : decode cX3_isStrength 11 = .ok (.goto 4, 3) := by decide +kernel
theorem dX3_isStrength_14 : decode cX3_isStrength 14 = .ok (.iconst 0, 1) := by decide +kernel
theorem dX3_isStrength_15 : decode cX3_isStrength 15 = .ok (.ireturn, 1) := by decide +kernel
theorem dX3_isUnder_0 : decode cX3_isUnder 0 = .ok (.iload_n 0, 1) := by decide +kernel
theorem dX3_isUnder_1 : decode cX3_isUnder 1 = .ok (.iload_n 1, 1) := by decide +kernel
theorem dX3_isUnder_2 : decode cX3_isUnder 2 = .ok (.if_icmp .eq 27, 3) := by decide +kernel
theorem dX3_isUnder_5 : decode cX3_isUnder 5 = .ok (.iload_n 1, 1) := by decide +kernel
theorem dX3_isUnder_6 : decode cX3_isUnder 6 = .ok (.ifCond .eq 23, 3) := by decide +kernel
theorem dX3_isUnder_9 : decode cX3_isUnder 9 = .ok (.iload_n 0, 1) := by decide +kernel
theorem dX3_isUnder_10 : decode cX3_isUnder 10 = .ok (.iconst 3, 1) := by decide +kernel
theorem dX3_isUnder_11 : decode cX3_isUnder 11 = .ok (.if_icmp .ne 8, 3) := by decide +kernel
theorem dX3_isUnder_14 : decode cX3_isUnder 14 = .ok (.iload_n 1, 1) := by decide +kernel
theorem dX3_isUnder_15 : decode cX3_isUnder 15 = .ok (.iconst 1, 1) := by decide +kernel
theorem dX3_isUnder_16 : decode cX3_isUnder 16 = .ok (.if_icmp .eq 13, 3) := by decide +kernel
theorem dX3_isUnder_19 : decode cX3_isUnder 19 = .ok (.iload_n 0, 1) := by decide +kernel
theorem dX3_isUnder_20 : decode cX3_isUnder 20 = .ok (.iconst 4, 1) := by decide +kernel
theorem dX3_isUnder_21 : decode cX3_isUnder 21 = .ok (.if_icmp .ne 12, 3) := by decide +kernel
theorem dX3_isUnder_24 : decode cX3_isUnder 24 = .ok (.iload_n 1, 1) := by decide +kernel
theorem dX3_isUnder_25 : decode cX3_isUnder 25 = .ok (.iconst 2, 1) := by decide +kernel
theorem dX3_isUnder_26 : decode cX3_isUnder 26 = .ok (.if_icmp .ne 7, 3) := by decide +kernel
theorem dX3_isUnder_29 : decode cX3_isUnder 29 = .ok (.iconst 1, 1) := by decide +kernel
theorem dX3_isUnder_30 : decode cX3_isUnder 30 = .ok (.goto 4, 3) := by decide +kernel
theorem dX3_isUnder_33 : decode cX3_isUnder 33 = .ok (.iconst 0, 1) := by decide +kernel
theorem dX3_isUnder_34 : decode cX3_isUnder 34 = .ok (.ireturn, 1) := by decide +kernel
theorem dX3_isTornAway_0 : decode cX3_isTornAway 0 = .ok (.iload_n 0, 1) := by decide +kernel
theorem dX3_isTornAway_1 : decode cX3_isTornAway 1 = .ok (.iconst 1, 1) := by decide +kernel
theorem dX3_isTornAway_2 : decode cX3_isTornAway 2 = .ok (.if_icmp .eq 10, 3) := by decide +kernel
theorem dX3_isTornAway_5 : decode cX3_isTornAway 5 = .ok (.iload_n 0, 1) := by decide +kernel
theorem dX3_isTornAway_6 : decode cX3_isTornAway 6 = .ok (.iconst 3, 1) := by decide +kernel
theorem dX3_isTornAway_7 : decode cX3_isTornAway 7 = .ok (.if_icmp .eq 5, 3) := by decide +kernel
theorem dX3_isTornAway_10 : decode cX3_isTornAway 10 = .ok (.iconst 0, 1) := by decide +kernel
theorem dX3_isTornAway_11 : decode cX3_isTornAway 11 = .ok (.ireturn, 1) := by decide +kernel
theorem dX3_isTornAway_12 : decode cX3_isTornAway 12 = .ok (.iload_n 2, 1) := by decide +kernel
theorem dX3_isTornAway_13 : decode cX3_isTornAway 13 = .ok (.iload_n 1, 1) := by decide +kernel
theorem dX3_isTornAway_14 : decode cX3_isTornAway 14 = .ok (.if_icmp .lt 15, 3) := by decide +kernel
theorem dX3_isTornAway_17 : decode cX3_isTornAway 17 = .ok (.iload_n 0, 1) := by decide +kernel
theorem dX3_isTornAway_18 : decode cX3_isTornAway 18 = .ok (.iconst 3, 1) := by decide +kernel
theorem dX3_isTornAway_19 : decode cX3_isTornAway 19 = .ok (.if_icmp .ne 14, 3) := by decide +kernel
theorem dX3_isTornAway_22 : decode cX3_isTornAway 22 = .ok (.iload_n 2, 1) := by decide +kernel
theorem dX3_isTornAway_23 : decode cX3_isTornAway 23 = .ok (.iload_n 3, 1) := by decide +kernel
theorem dX3_isTornAway_24 : decode cX3_isTornAway 24 = .ok (.iconst 1, 1) := by decide +kernel
theorem dX3_isTornAway_25 : decode cX3_isTornAway 25 = .ok (.isub, 1) := by decide +kernel
theorem dX3_isTornAway_26 : decode cX3_isTornAway 26 = .ok (.if_icmp .ne 7, 3) := by decide +kernel
theorem dX3_isTornAway_29 : decode cX3_isTornAway 29 = .ok (.iconst 1, 1) := by decide +kernel
theorem dX3_isTornAway_30 : decode cX3_isTornAway 30 = .ok (.goto 4, 3) := by decide +kernel
theorem dX3_isTornAway_33 : decode cX3_isTornAway 33 = .ok (.iconst 0, 1) := by decide +kernel
theorem dX3_isTornAway_34 : decode cX3_isTornAway 34 = .ok (.ireturn, 1) := by decide +kernel
theorem dX3_isEchoed_0 : decode cX3_isEchoed 0 = .ok (.iload_n 0, 1) := by decide +kernel
theorem dX3_isEchoed_1 : decode cX3_isEchoed 1 = .ok (.iconst 5, 1) := by decide +kernel
theorem dX3_isEchoed_2 : decode cX3_isEchoed 2 = .ok (.if_icmp .ne 24, 3) := by decide +kernel
theorem dX3_isEchoed_5 : decode cX3_isEchoed 5 = .ok (.iload_n 2, 1) := by decide +kernel
theorem dX3_isEchoed_6 : decode cX3_isEchoed 6 = .ok (.ifCond .le 20, 3) := by decide +kernel
theorem dX3_isEchoed_9 : decode cX3_isEchoed 9 = .ok (.iload_n 1, 1) := by decide +kernel
theorem dX3_isEchoed_10 : decode cX3_isEchoed 10 = .ok (.ifCond .lt 16, 3) := by decide +kernel
theorem dX3_isEchoed_13 : decode cX3_isEchoed 13 = .ok (.iload_n 2, 1) := by decide +kernel
theorem dX3_isEchoed_14 : decode cX3_isEchoed 14 = .ok (.iload_n 1, 1) := by decide +kernel
theorem dX3_isEchoed_15 : decode cX3_isEchoed 15 = .ok (.iconst 1, 1) := by decide +kernel
theorem dX3_isEchoed_16 : decode cX3_isEchoed 16 = .ok (.iadd, 1) := by decide +kernel
theorem dX3_isEchoed_17 : decode cX3_isEchoed 17 = .ok (.irem, 1) := by decide +kernel
theorem dX3_isEchoed_18 : decode cX3_isEchoed 18 = .ok (.iload_n 1, 1) := by decide +kernel
theorem dX3_isEchoed_19 : decode cX3_isEchoed 19 = .ok (.if_icmp .ne 7, 3) := by decide +kernel
theorem dX3_isEchoed_22 : decode cX3_isEchoed 22 = .ok (.iconst 1, 1) := by decide +kernel
theorem dX3_isEchoed_23 : decode cX3_isEchoed 23 = .ok (.goto 4, 3) := by decide +kernel
theorem dX3_isEchoed_26 : decode cX3_isEchoed 26 = .ok (.iconst 0, 1) := by decide +kernel
theorem dX3_isEchoed_27 : decode cX3_isEchoed 27 = .ok (.ireturn, 1) := by decide +kernel
theorem dX3_changedNote_0 : decode cX3_changedNote 0 = .ok (.iload_n 0, 1) := by decide +kernel
theorem dX3_changedNote_1 : decode cX3_changedNote 1 = .ok (.iconst 2, 1) := by decide +kernel
theorem dX3_changedNote_2 : decode cX3_changedNote 2 = .ok (.if_icmp .eq 10, 3) := by decide +kernel
theorem dX3_changedNote_5 : decode cX3_changedNote 5 = .ok (.iload_n 0, 1) := by decide +kernel
theorem dX3_changedNote_6 : decode cX3_changedNote 6 = .ok (.iconst 4, 1) := by decide +kernel
theorem dX3_changedNote_7 : decode cX3_changedNote 7 = .ok (.if_icmp .eq 5, 3) := by decide +kernel
theorem dX3_changedNote_10 : decode cX3_changedNote 10 = .ok (.iload_n 1, 1) := by decide +kernel
theorem dX3_changedNote_11 : decode cX3_changedNote 11 = .ok (.ireturn, 1) := by decide +kernel
theorem dX3_changedNote_12 : decode cX3_changedNote 12 = .ok (.iload_n 0, 1) := by decide +kernel
theorem dX3_changedNote_13 : decode cX3_changedNote 13 = .ok (.iconst 4, 1) := by decide +kernel
theorem dX3_changedNote_14 : decode cX3_changedNote 14 = .ok (.if_icmp .ne 10, 3) := by decide +kernel
theorem dX3_changedNote_17 : decode cX3_changedNote 17 = .ok (.iload_n 1, 1) := by decide +kernel
theorem dX3_changedNote_18 : decode cX3_changedNote 18 = .ok (.ifCond .ne 6, 3) := by decide +kernel
theorem dX3_changedNote_21 : decode cX3_changedNote 21 = .ok (.bipush 9, 2) := by decide +kernel
theorem dX3_changedNote_23 : decode cX3_changedNote 23 = .ok (.ireturn, 1) := by decide +kernel
theorem dX3_changedNote_24 : decode cX3_changedNote 24 = .ok (.iload_n 1, 1) := by decide +kernel
theorem dX3_changedNote_25 : decode cX3_changedNote 25 = .ok (.iconst 4, 1) := by decide +kernel
theorem dX3_changedNote_26 : decode cX3_changedNote 26 = .ok (.if_icmp .ne 7, 3) := by decide +kernel
theorem dX3_changedNote_29 : decode cX3_changedNote 29 = .ok (.iconst 3, 1) := by decide +kernel
theorem dX3_changedNote_30 : decode cX3_changedNote 30 = .ok (.goto 4, 3) := by decide +kernel
theorem dX3_changedNote_33 : decode cX3_changedNote 33 = .ok (.iload_n 1, 1) := by decide +kernel
theorem dX3_changedNote_34 : decode cX3_changedNote 34 = .ok (.ireturn, 1) := by decide +kernel
theorem dX3_tellOf_0 : decode cX3_tellOf 0 = .ok (.iload_n 2, 1) := by decide +kernel
theorem dX3_tellOf_1 : decode cX3_tellOf 1 = .ok (.tableswitch 53 1 5 #[35, 41, 35, 41, 47], 35) := by decide +kernel
theorem dX3_tellOf_36 : decode cX3_tellOf 36 = .ok (.iload_n 0, 1) := by decide +kernel
theorem dX3_tellOf_37 : decode cX3_tellOf 37 = .ok (.iload_n 1, 1) := by decide +kernel
theorem dX3_tellOf_38 : decode cX3_tellOf 38 = .ok (.invokestatic 11, 3) := by decide +kernel
theorem dX3_tellOf_41 : decode cX3_tellOf 41 = .ok (.ireturn, 1) := by decide +kernel
theorem dX3_tellOf_42 : decode cX3_tellOf 42 = .ok (.iload_n 0, 1) := by decide +kernel
theorem dX3_tellOf_43 : decode cX3_tellOf 43 = .ok (.iconst 4, 1) := by decide +kernel
theorem dX3_tellOf_44 : decode cX3_tellOf 44 = .ok (.invokestatic 15, 3) := by decide +kernel
theorem dX3_tellOf_47 : decode cX3_tellOf 47 = .ok (.ireturn, 1) := by decide +kernel
theorem dX3_tellOf_48 : decode cX3_tellOf 48 = .ok (.iload_n 0, 1) := by decide +kernel
theorem dX3_tellOf_49 : decode cX3_tellOf 49 = .ok (.iload_n 1, 1) := by decide +kernel
theorem dX3_tellOf_50 : decode cX3_tellOf 50 = .ok (.invokestatic 18, 3) := by decide +kernel
theorem dX3_tellOf_53 : decode cX3_tellOf 53 = .ok (.ireturn, 1) := by decide +kernel
theorem dX3_tellOf_54 : decode cX3_tellOf 54 = .ok (.iload_n 1, 1) := by decide +kernel
theorem dX3_tellOf_55 : decode cX3_tellOf 55 = .ok (.ireturn, 1) := by decide +kernel
theorem dX3_countTornAway_0 : decode cX3_countTornAway 0 = .ok (.iconst 0, 1) := by decide +kernel
theorem dX3_countTornAway_1 : decode cX3_countTornAway 1 = .ok (.istore_n 2, 1) := by decide +kernel
theorem dX3_countTornAway_2 : decode cX3_countTornAway 2 = .ok (.iconst 0, 1) := by decide +kernel
theorem dX3_countTornAway_3 : decode cX3_countTornAway 3 = .ok (.istore_n 3, 1) := by decide +kernel
theorem dX3_countTornAway_4 : decode cX3_countTornAway 4 = .ok (.iload_n 3, 1) := by decide +kernel
theorem dX3_countTornAway_5 : decode cX3_countTornAway 5 = .ok (.bipush 8, 2) := by decide +kernel
theorem dX3_countTornAway_7 : decode cX3_countTornAway 7 = .ok (.if_icmp .ge 23, 3) := by decide +kernel
theorem dX3_countTornAway_10 : decode cX3_countTornAway 10 = .ok (.iload_n 0, 1) := by decide +kernel
theorem dX3_countTornAway_11 : decode cX3_countTornAway 11 = .ok (.iload_n 1, 1) := by decide +kernel
theorem dX3_countTornAway_12 : decode cX3_countTornAway 12 = .ok (.iload_n 3, 1) := by decide +kernel
theorem dX3_countTornAway_13 : decode cX3_countTornAway 13 = .ok (.bipush 8, 2) := by decide +kernel
theorem dX3_countTornAway_15 : decode cX3_countTornAway 15 = .ok (.invokestatic 23, 3) := by decide +kernel
theorem dX3_countTornAway_18 : decode cX3_countTornAway 18 = .ok (.ifCond .eq 6, 3) := by decide +kernel
theorem dX3_countTornAway_21 : decode cX3_countTornAway 21 = .ok (.iinc 2 1, 3) := by decide +kernel
theorem dX3_countTornAway_24 : decode cX3_countTornAway 24 = .ok (.iinc 3 1, 3) := by decide +kernel
theorem dX3_countTornAway_27 : decode cX3_countTornAway 27 = .ok (.goto (-23), 3) := by decide +kernel
theorem dX3_countTornAway_30 : decode cX3_countTornAway 30 = .ok (.iload_n 2, 1) := by decide +kernel
theorem dX3_countTornAway_31 : decode cX3_countTornAway 31 = .ok (.ireturn, 1) := by decide +kernel
theorem dX3_countEchoed_0 : decode cX3_countEchoed 0 = .ok (.iconst 0, 1) := by decide +kernel
theorem dX3_countEchoed_1 : decode cX3_countEchoed 1 = .ok (.istore_n 2, 1) := by decide +kernel
theorem dX3_countEchoed_2 : decode cX3_countEchoed 2 = .ok (.iconst 0, 1) := by decide +kernel
theorem dX3_countEchoed_3 : decode cX3_countEchoed 3 = .ok (.istore_n 3, 1) := by decide +kernel
theorem dX3_countEchoed_4 : decode cX3_countEchoed 4 = .ok (.iload_n 3, 1) := by decide +kernel
theorem dX3_countEchoed_5 : decode cX3_countEchoed 5 = .ok (.bipush 8, 2) := by decide +kernel
theorem dX3_countEchoed_7 : decode cX3_countEchoed 7 = .ok (.if_icmp .ge 21, 3) := by decide +kernel
theorem dX3_countEchoed_10 : decode cX3_countEchoed 10 = .ok (.iload_n 0, 1) := by decide +kernel
theorem dX3_countEchoed_11 : decode cX3_countEchoed 11 = .ok (.iload_n 1, 1) := by decide +kernel
theorem dX3_countEchoed_12 : decode cX3_countEchoed 12 = .ok (.iload_n 3, 1) := by decide +kernel
theorem dX3_countEchoed_13 : decode cX3_countEchoed 13 = .ok (.invokestatic 27, 3) := by decide +kernel
theorem dX3_countEchoed_16 : decode cX3_countEchoed 16 = .ok (.ifCond .eq 6, 3) := by decide +kernel
theorem dX3_countEchoed_19 : decode cX3_countEchoed 19 = .ok (.iinc 2 1, 3) := by decide +kernel
theorem dX3_countEchoed_22 : decode cX3_countEchoed 22 = .ok (.iinc 3 1, 3) := by decide +kernel
theorem dX3_countEchoed_25 : decode cX3_countEchoed 25 = .ok (.goto (-21), 3) := by decide +kernel
theorem dX3_countEchoed_28 : decode cX3_countEchoed 28 = .ok (.iload_n 2, 1) := by decide +kernel
theorem dX3_countEchoed_29 : decode cX3_countEchoed 29 = .ok (.ireturn, 1) := by decide +kernel
theorem dX4_init_0 : decode cX4_init 0 = .ok (.aload_n 0, 1) := by decide +kernel
theorem dX4_init_1 : decode cX4_init 1 = .ok (.invokespecial 3, 3) := by decide +kernel
theorem dX4_init_4 : decode cX4_init 4 = .ok (.aload_n 0, 1) := by decide +kernel
theorem dX4_init_5 : decode cX4_init 5 = .ok (.bipush 12, 2) := by decide +kernel
theorem dX4_init_7 : decode cX4_init 7 = .ok (.newarray .int, 2) := by decide +kernel
theorem dX4_init_9 : decode cX4_init 9 = .ok (.putfield 11, 3) := by decide +kernel
theorem dX4_init_12 : decode cX4_init 12 = .ok (.return_, 1) := by decide +kernel
theorem dX4_distance_0 : decode cX4_distance 0 = .ok (.iload_n 0, 1) := by decide +kernel
theorem dX4_distance_1 : decode cX4_distance 1 = .ok (.iload_n 1, 1) := by decide +kernel
theorem dX4_distance_2 : decode cX4_distance 2 = .ok (.ixor, 1) := by decide +kernel
theorem dX4_distance_3 : decode cX4_distance 3 = .ok (.istore_n 2, 1) := by decide +kernel
theorem dX4_distance_4 : decode cX4_distance 4 = .ok (.iload_n 2, 1) := by decide +kernel
theorem dX4_distance_5 : decode cX4_distance 5 = .ok (.iload_n 2, 1) := by decide +kernel
theorem dX4_distance_6 : decode cX4_distance 6 = .ok (.iconst 1, 1) := by decide +kernel
theorem dX4_distance_7 : decode cX4_distance 7 = .ok (.ishr, 1) := by decide +kernel
theorem dX4_distance_8 : decode cX4_distance 8 = .ok (.ior, 1) := by decide +kernel
theorem dX4_distance_9 : decode cX4_distance 9 = .ok (.iload_n 2, 1) := by decide +kernel
theorem dX4_distance_10 : decode cX4_distance 10 = .ok (.iconst 2, 1) := by decide +kernel
theorem dX4_distance_11 : decode cX4_distance 11 = .ok (.ishr, 1) := by decide +kernel
theorem dX4_distance_12 : decode cX4_distance 12 = .ok (.ior, 1) := by decide +kernel
theorem dX4_distance_13 : decode cX4_distance 13 = .ok (.ldc 17, 2) := by decide +kernel
theorem dX4_distance_15 : decode cX4_distance 15 = .ok (.iand, 1) := by decide +kernel
theorem dX4_distance_16 : decode cX4_distance 16 = .ok (.invokestatic 18, 3) := by decide +kernel
theorem dX4_distance_19 : decode cX4_distance 19 = .ok (.ireturn, 1) := by decide +kernel
theorem dX4_sameStart_0 : decode cX4_sameStart 0 = .ok (.aload_n 0, 1) := by decide +kernel
theorem dX4_sameStart_1 : decode cX4_sameStart 1 = .ok (.iload_n 1, 1) := by decide +kernel
theorem dX4_sameStart_2 : decode cX4_sameStart 2 = .ok (.invokevirtual 24, 3) := by decide +kernel
theorem dX4_sameStart_5 : decode cX4_sameStart 5 = .ok (.aload_n 0, 1) := by decide +kernel
theorem dX4_sameStart_6 : decode cX4_sameStart 6 = .ok (.iload_n 2, 1) := by decide +kernel
theorem dX4_sameStart_7 : decode cX4_sameStart 7 = .ok (.invokevirtual 24, 3) := by decide +kernel
theorem dX4_sameStart_10 : decode cX4_sameStart 10 = .ok (.invokestatic 27, 3) := by decide +kernel
theorem dX4_sameStart_13 : decode cX4_sameStart 13 = .ok (.istore_n 3, 1) := by decide +kernel
theorem dX4_sameStart_14 : decode cX4_sameStart 14 = .ok (.iconst 0, 1) := by decide +kernel
theorem dX4_sameStart_15 : decode cX4_sameStart 15 = .ok (.istore 4, 2) := by decide +kernel
theorem dX4_sameStart_17 : decode cX4_sameStart 17 = .ok (.iload 4, 2) := by decide +kernel
theorem dX4_sameStart_19 : decode cX4_sameStart 19 = .ok (.iload_n 3, 1) := by decide +kernel
theorem dX4_sameStart_20 : decode cX4_sameStart 20 = .ok (.if_icmp .ge 29, 3) := by decide +kernel
theorem dX4_sameStart_23 : decode cX4_sameStart 23 = .ok (.aload_n 0, 1) := by decide +kernel
theorem dX4_sameStart_24 : decode cX4_sameStart 24 = .ok (.iload_n 1, 1) := by decide +kernel
theorem dX4_sameStart_25 : decode cX4_sameStart 25 = .ok (.iload 4, 2) := by decide +kernel
theorem dX4_sameStart_27 : decode cX4_sameStart 27 = .ok (.invokevirtual 33, 3) := by decide +kernel
theorem dX4_sameStart_30 : decode cX4_sameStart 30 = .ok (.aload_n 0, 1) := by decide +kernel
theorem dX4_sameStart_31 : decode cX4_sameStart 31 = .ok (.iload_n 2, 1) := by decide +kernel
theorem dX4_sameStart_32 : decode cX4_sameStart 32 = .ok (.iload 4, 2) := by decide +kernel
theorem dX4_sameStart_34 : decode cX4_sameStart 34 = .ok (.invokevirtual 33, 3) := by decide +kernel
theorem dX4_sameStart_37 : decode cX4_sameStart 37 = .ok (.if_icmp .eq 6, 3) := by decide +kernel
theorem dX4_sameStart_40 : decode cX4_sameStart 40 = .ok (.iload 4, 2) := by decide +kernel
theorem dX4_sameStart_42 : decode cX4_sameStart 42 = .ok (.ireturn, 1) := by decide +kernel
theorem dX4_sameStart_43 : decode cX4_sameStart 43 = .ok (.iinc 4 1, 3) := by decide +kernel
theorem dX4_sameStart_46 : decode cX4_sameStart 46 = .ok (.goto (-29), 3) := by decide +kernel
theorem dX4_sameStart_49 : decode cX4_sameStart 49 = .ok (.iload_n 3, 1) := by decide +kernel
theorem dX4_sameStart_50 : decode cX4_sameStart 50 = .ok (.ireturn, 1) := by decide +kernel
theorem dX4_countTwins_0 : decode cX4_countTwins 0 = .ok (.iconst 0, 1) := by decide +kernel
theorem dX4_countTwins_1 : decode cX4_countTwins 1 = .ok (.istore_n 1, 1) := by decide +kernel
theorem dX4_countTwins_2 : decode cX4_countTwins 2 = .ok (.iconst 0, 1) := by decide +kernel
theorem dX4_countTwins_3 : decode cX4_countTwins 3 = .ok (.istore_n 2, 1) := by decide +kernel
theorem dX4_countTwins_4 : decode cX4_countTwins 4 = .ok (.iload_n 2, 1) := by decide +kernel
theorem dX4_countTwins_5 : decode cX4_countTwins 5 = .ok (.aload_n 0, 1) := by decide +kernel
theorem dX4_countTwins_6 : decode cX4_countTwins 6 = .ok (.getfield 36, 3) := by decide +kernel
theorem dX4_countTwins_9 : decode cX4_countTwins 9 = .ok (.if_icmp .ge 26, 3) := by decide +kernel
theorem dX4_countTwins_12 : decode cX4_countTwins 12 = .ok (.aload_n 0, 1) := by decide +kernel
theorem dX4_countTwins_13 : decode cX4_countTwins 13 = .ok (.aload_n 0, 1) := by decide +kernel
theorem dX4_countTwins_14 : decode cX4_countTwins 14 = .ok (.iload_n 2, 1) := by decide +kernel
theorem dX4_countTwins_15 : decode cX4_countTwins 15 = .ok (.invokevirtual 40, 3) := by decide +kernel
theorem dX4_countTwins_18 : decode cX4_countTwins 18 = .ok (.iconst 1, 1) := by decide +kernel
theorem dX4_countTwins_19 : decode cX4_countTwins 19 = .ok (.iload_n 2, 1) := by decide +kernel
theorem dX4_countTwins_20 : decode cX4_countTwins 20 = .ok (.invokestatic 43, 3) := by decide +kernel
theorem dX4_countTwins_23 : decode cX4_countTwins 23 = .ok (.ifCond .ne 6, 3) := by decide +kernel
theorem dX4_countTwins_26 : decode cX4_countTwins 26 = .ok (.iinc 1 1, 3) := by decide +kernel
theorem dX4_countTwins_29 : decode cX4_countTwins 29 = .ok (.iinc 2 1, 3) := by decide +kernel
theorem dX4_countTwins_32 : decode cX4_countTwins 32 = .ok (.goto (-28), 3) := by decide +kernel
theorem dX4_countTwins_35 : decode cX4_countTwins 35 = .ok (.iload_n 1, 1) := by decide +kernel
theorem dX4_countTwins_36 : decode cX4_countTwins 36 = .ok (.ireturn, 1) := by decide +kernel
theorem dX4_nearestPair_0 : decode cX4_nearestPair 0 = .ok (.iconst (-1), 1) := by decide +kernel
theorem dX4_nearestPair_1 : decode cX4_nearestPair 1 = .ok (.istore_n 1, 1) := by decide +kernel
theorem dX4_nearestPair_2 : decode cX4_nearestPair 2 = .ok (.iconst 0, 1) := by decide +kernel
theorem dX4_nearestPair_3 : decode cX4_nearestPair 3 = .ok (.istore_n 2, 1) := by decide +kernel
theorem dX4_nearestPair_4 : decode cX4_nearestPair 4 = .ok (.iconst 0, 1) := by decide +kernel
theorem dX4_nearestPair_5 : decode cX4_nearestPair 5 = .ok (.istore_n 3, 1) := by decide +kernel
theorem dX4_nearestPair_6 : decode cX4_nearestPair 6 = .ok (.iload_n 3, 1) := by decide +kernel
theorem dX4_nearestPair_7 : decode cX4_nearestPair 7 = .ok (.aload_n 0, 1) := by decide +kernel
theorem dX4_nearestPair_8 : decode cX4_nearestPair 8 = .ok (.getfield 36, 3) := by decide +kernel
theorem dX4_nearestPair_11 : decode cX4_nearestPair 11 = .ok (.if_icmp .ge 67, 3) := by decide +kernel
theorem dX4_nearestPair_14 : decode cX4_nearestPair 14 = .ok (.iload_n 3, 1) := by decide +kernel
theorem dX4_nearestPair_15 : decode cX4_nearestPair 15 = .ok (.iconst 1, 1) := by decide +kernel
theorem dX4_nearestPair_16 : decode cX4_nearestPair 16 = .ok (.iadd, 1) := by decide +kernel
theorem dX4_nearestPair_17 : decode cX4_nearestPair 17 = .ok (.istore 4, 2) := by decide +kernel
theorem dX4_nearestPair_19 : decode cX4_nearestPair 19 = .ok (.iload 4, 2) := by decide +kernel
theorem dX4_nearestPair_21 : decode cX4_nearestPair 21 = .ok (.aload_n 0, 1) := by decide +kernel
theorem dX4_nearestPair_22 : decode cX4_nearestPair 22 = .ok (.getfield 36, 3) := by decide +kernel
theorem dX4_nearestPair_25 : decode cX4_nearestPair 25 = .ok (.if_icmp .ge 47, 3) := by decide +kernel
theorem dX4_nearestPair_28 : decode cX4_nearestPair 28 = .ok (.aload_n 0, 1) := by decide +kernel
theorem dX4_nearestPair_29 : decode cX4_nearestPair 29 = .ok (.iload_n 3, 1) := by decide +kernel
theorem dX4_nearestPair_30 : decode cX4_nearestPair 30 = .ok (.invokevirtual 40, 3) := by decide +kernel
theorem dX4_nearestPair_33 : decode cX4_nearestPair 33 = .ok (.aload_n 0, 1) := by decide +kernel
theorem dX4_nearestPair_34 : decode cX4_nearestPair 34 = .ok (.iload 4, 2) := by decide +kernel
theorem dX4_nearestPair_36 : decode cX4_nearestPair 36 = .ok (.invokevirtual 40, 3) := by decide +kernel
theorem dX4_nearestPair_39 : decode cX4_nearestPair 39 = .ok (.invokestatic 47, 3) := by decide +kernel
theorem dX4_nearestPair_42 : decode cX4_nearestPair 42 = .ok (.istore 5, 2) := by decide +kernel
theorem dX4_nearestPair_44 : decode cX4_nearestPair 44 = .ok (.iload_n 1, 1) := by decide +kernel
theorem dX4_nearestPair_45 : decode cX4_nearestPair 45 = .ok (.iconst (-1), 1) := by decide +kernel
theorem dX4_nearestPair_46 : decode cX4_nearestPair 46 = .ok (.if_icmp .eq 9, 3) := by decide +kernel
theorem dX4_nearestPair_49 : decode cX4_nearestPair 49 = .ok (.iload 5, 2) := by decide +kernel
theorem dX4_nearestPair_51 : decode cX4_nearestPair 51 = .ok (.iload_n 2, 1) := by decide +kernel
theorem dX4_nearestPair_52 : decode cX4_nearestPair 52 = .ok (.if_icmp .ge 14, 3) := by decide +kernel
theorem dX4_nearestPair_55 : decode cX4_nearestPair 55 = .ok (.bipush 100, 2) := by decide +kernel
theorem dX4_nearestPair_57 : decode cX4_nearestPair 57 = .ok (.iload_n 3, 1) := by decide +kernel
theorem dX4_nearestPair_58 : decode cX4_nearestPair 58 = .ok (.imul, 1) := by decide +kernel
theorem dX4_nearestPair_59 : decode cX4_nearestPair 59 = .ok (.iload 4, 2) := by decide +kernel
theorem dX4_nearestPair_61 : decode cX4_nearestPair 61 = .ok (.iadd, 1) := by decide +kernel
theorem dX4_nearestPair_62 : decode cX4_nearestPair 62 = .ok (.istore_n 1, 1) := by decide +kernel
theorem dX4_nearestPair_63 : decode cX4_nearestPair 63 = .ok (.iload 5, 2) := by decide +kernel
theorem dX4_nearestPair_65 : decode cX4_nearestPair 65 = .ok (.istore_n 2, 1) := by decide +kernel
theorem dX4_nearestPair_66 : decode cX4_nearestPair 66 = .ok (.iinc 4 1, 3) := by decide +kernel
theorem dX4_nearestPair_69 : decode cX4_nearestPair 69 = .ok (.goto (-50), 3) := by decide +kernel
theorem dX4_nearestPair_72 : decode cX4_nearestPair 72 = .ok (.iinc 3 1, 3) := by decide +kernel
theorem dX4_nearestPair_75 : decode cX4_nearestPair 75 = .ok (.goto (-69), 3) := by decide +kernel
theorem dX4_nearestPair_78 : decode cX4_nearestPair 78 = .ok (.iload_n 1, 1) := by decide +kernel
theorem dX4_nearestPair_79 : decode cX4_nearestPair 79 = .ok (.ireturn, 1) := by decide +kernel
theorem dX4_pairDistance_0 : decode cX4_pairDistance 0 = .ok (.aload_n 0, 1) := by decide +kernel
theorem dX4_pairDistance_1 : decode cX4_pairDistance 1 = .ok (.iload_n 1, 1) := by decide +kernel
theorem dX4_pairDistance_2 : decode cX4_pairDistance 2 = .ok (.bipush 100, 2) := by decide +kernel
theorem dX4_pairDistance_4 : decode cX4_pairDistance 4 = .ok (.idiv, 1) := by decide +kernel
theorem dX4_pairDistance_5 : decode cX4_pairDistance 5 = .ok (.invokevirtual 40, 3) := by decide +kernel
theorem dX4_pairDistance_8 : decode cX4_pairDistance 8 = .ok (.aload_n 0, 1) := by decide +kernel
theorem dX4_pairDistance_9 : decode cX4_pairDistance 9 = .ok (.iload_n 1, 1) := by decide +kernel
theorem dX4_pairDistance_10 : decode cX4_pairDistance 10 = .ok (.bipush 100, 2) := by decide +kernel
theorem dX4_pairDistance_12 : decode cX4_pairDistance 12 = .ok (.irem, 1) := by decide +kernel
theorem dX4_pairDistance_13 : decode cX4_pairDistance 13 = .ok (.invokevirtual 40, 3) := by decide +kernel
theorem dX4_pairDistance_16 : decode cX4_pairDistance 16 = .ok (.invokestatic 47, 3) := by decide +kernel
theorem dX4_pairDistance_19 : decode cX4_pairDistance 19 = .ok (.ireturn, 1) := by decide +kernel
theorem dX4_isClear_0 : decode cX4_isClear 0 = .ok (.iconst 0, 1) := by decide +kernel
theorem dX4_isClear_1 : decode cX4_isClear 1 = .ok (.istore 4, 2) := by decide +kernel
theorem dX4_isClear_3 : decode cX4_isClear 3 = .ok (.iload 4, 2) := by decide +kernel
theorem dX4_isClear_5 : decode cX4_isClear 5 = .ok (.aload_n 0, 1) := by decide +kernel
theorem dX4_isClear_6 : decode cX4_isClear 6 = .ok (.getfield 36, 3) := by decide +kernel
theorem dX4_isClear_9 : decode cX4_isClear 9 = .ok (.if_icmp .ge 31, 3) := by decide +kernel
theorem dX4_isClear_12 : decode cX4_isClear 12 = .ok (.iload 4, 2) := by decide +kernel
theorem dX4_isClear_14 : decode cX4_isClear 14 = .ok (.iload_n 3, 1) := by decide +kernel
theorem dX4_isClear_15 : decode cX4_isClear 15 = .ok (.if_icmp .eq 19, 3) := by decide +kernel
theorem dX4_isClear_18 : decode cX4_isClear 18 = .ok (.iload_n 1, 1) := by decide +kernel
theorem dX4_isClear_19 : decode cX4_isClear 19 = .ok (.aload_n 0, 1) := by decide +kernel
theorem dX4_isClear_20 : decode cX4_isClear 20 = .ok (.iload 4, 2) := by decide +kernel
theorem dX4_isClear_22 : decode cX4_isClear 22 = .ok (.invokevirtual 40, 3) := by decide +kernel
theorem dX4_isClear_25 : decode cX4_isClear 25 = .ok (.invokestatic 47, 3) := by decide +kernel
theorem dX4_isClear_28 : decode cX4_isClear 28 = .ok (.iload_n 2, 1) := by decide +kernel
theorem dX4_isClear_29 : decode cX4_isClear 29 = .ok (.if_icmp .ge 5, 3) := by decide +kernel
theorem dX4_isClear_32 : decode cX4_isClear 32 = .ok (.iconst 0, 1) := by decide +kernel
theorem dX4_isClear_33 : decode cX4_isClear 33 = .ok (.ireturn, 1) := by decide +kernel
theorem dX4_isClear_34 : decode cX4_isClear 34 = .ok (.iinc 4 1, 3) := by decide +kernel
theorem dX4_isClear_37 : decode cX4_isClear 37 = .ok (.goto (-34), 3) := by decide +kernel
theorem dX4_isClear_40 : decode cX4_isClear 40 = .ok (.iconst 1, 1) := by decide +kernel
theorem dX4_isClear_41 : decode cX4_isClear 41 = .ok (.ireturn, 1) := by decide +kernel
theorem dX4_countRows_0 : decode cX4_countRows 0 = .ok (.iconst 1, 1) := by decide +kernel
theorem dX4_countRows_1 : decode cX4_countRows 1 = .ok (.istore_n 1, 1) := by decide +kernel
theorem dX4_countRows_2 : decode cX4_countRows 2 = .ok (.iconst 0, 1) := by decide +kernel
theorem dX4_countRows_3 : decode cX4_countRows 3 = .ok (.istore_n 2, 1) := by decide +kernel
theorem dX4_countRows_4 : decode cX4_countRows 4 = .ok (.iload_n 2, 1) := by decide +kernel
theorem dX4_countRows_5 : decode cX4_countRows 5 = .ok (.iload_n 0, 1) := by decide +kernel
theorem dX4_countRows_6 : decode cX4_countRows 6 = .ok (.if_icmp .ge 13, 3) := by decide +kernel
theorem dX4_countRows_9 : decode cX4_countRows 9 = .ok (.iload_n 1, 1) := by decide +kernel
theorem dX4_countRows_10 : decode cX4_countRows 10 = .ok (.iconst 5, 1) := by decide +kernel
theorem dX4_countRows_11 : decode cX4_countRows 11 = .ok (.imul, 1) := by decide +kernel
theorem dX4_countRows_12 : decode cX4_countRows 12 = .ok (.istore_n 1, 1) := by decide +kernel
theorem dX4_countRows_13 : decode cX4_countRows 13 = .ok (.iinc 2 1, 3) := by decide +kernel
theorem dX4_countRows_16 : decode cX4_countRows 16 = .ok (.goto (-12), 3) := by decide +kernel
theorem dX4_countRows_19 : decode cX4_countRows 19 = .ok (.iload_n 1, 1) := by decide +kernel
theorem dX4_countRows_20 : decode cX4_countRows 20 = .ok (.ireturn, 1) := by decide +kernel
theorem dX4_packedRow_0 : decode cX4_packedRow 0 = .ok (.iconst 0, 1) := by decide +kernel
theorem dX4_packedRow_1 : decode cX4_packedRow 1 = .ok (.istore_n 2, 1) := by decide +kernel
theorem dX4_packedRow_2 : decode cX4_packedRow 2 = .ok (.iload_n 0, 1) := by decide +kernel
theorem dX4_packedRow_3 : decode cX4_packedRow 3 = .ok (.istore_n 3, 1) := by decide +kernel
theorem dX4_packedRow_4 : decode cX4_packedRow 4 = .ok (.iload_n 1, 1) := by decide +kernel
theorem dX4_packedRow_5 : decode cX4_packedRow 5 = .ok (.iconst 1, 1) := by decide +kernel
theorem dX4_packedRow_6 : decode cX4_packedRow 6 = .ok (.isub, 1) := by decide +kernel
theorem dX4_packedRow_7 : decode cX4_packedRow 7 = .ok (.istore 4, 2) := by decide +kernel
theorem dX4_packedRow_9 : decode cX4_packedRow 9 = .ok (.iload 4, 2) := by decide +kernel
theorem dX4_packedRow_11 : decode cX4_packedRow 11 = .ok (.ifCond .lt 24, 3) := by decide +kernel
theorem dX4_packedRow_14 : decode cX4_packedRow 14 = .ok (.iload_n 2, 1) := by decide +kernel
theorem dX4_packedRow_15 : decode cX4_packedRow 15 = .ok (.iload_n 3, 1) := by decide +kernel
theorem dX4_packedRow_16 : decode cX4_packedRow 16 = .ok (.iconst 5, 1) := by decide +kernel
theorem dX4_packedRow_17 : decode cX4_packedRow 17 = .ok (.irem, 1) := by decide +kernel
theorem dX4_packedRow_18 : decode cX4_packedRow 18 = .ok (.iload 4, 2) := by decide +kernel
theorem dX4_packedRow_20 : decode cX4_packedRow 20 = .ok (.invokestatic 50, 3) := by decide +kernel
theorem dX4_packedRow_23 : decode cX4_packedRow 23 = .ok (.ior, 1) := by decide +kernel
theorem dX4_packedRow_24 : decode cX4_packedRow 24 = .ok (.istore_n 2, 1) := by decide +kernel
theorem dX4_packedRow_25 : decode cX4_packedRow 25 = .ok (.iload_n 3, 1) := by decide +kernel
theorem dX4_packedRow_26 : decode cX4_packedRow 26 = .ok (.iconst 5, 1) := by decide +kernel
theorem dX4_packedRow_27 : decode cX4_packedRow 27 = .ok (.idiv, 1) := by decide +kernel
theorem dX4_packedRow_28 : decode cX4_packedRow 28 = .ok (.istore_n 3, 1) := by decide +kernel
theorem dX4_packedRow_29 : decode cX4_packedRow 29 = .ok (.iinc 4 (-1), 3) := by decide +kernel
theorem dX4_packedRow_32 : decode cX4_packedRow 32 = .ok (.goto (-23), 3) := by decide +kernel
theorem dX4_packedRow_35 : decode cX4_packedRow 35 = .ok (.iload_n 2, 1) := by decide +kernel
theorem dX4_packedRow_36 : decode cX4_packedRow 36 = .ok (.ireturn, 1) := by decide +kernel
theorem dX4_firstFresh_0 : decode cX4_firstFresh 0 = .ok (.iload_n 1, 1) := by decide +kernel
theorem dX4_firstFresh_1 : decode cX4_firstFresh 1 = .ok (.invokestatic 53, 3) := by decide +kernel
theorem dX4_firstFresh_4 : decode cX4_firstFresh 4 = .ok (.istore_n 3, 1) := by decide +kernel
theorem dX4_firstFresh_5 : decode cX4_firstFresh 5 = .ok (.iconst 0, 1) := by decide +kernel
theorem dX4_firstFresh_6 : decode cX4_firstFresh 6 = .ok (.istore 4, 2) := by decide +kernel
theorem dX4_firstFresh_8 : decode cX4_firstFresh 8 = .ok (.iload 4, 2) := by decide +kernel
theorem dX4_firstFresh_10 : decode cX4_firstFresh 10 = .ok (.iload_n 3, 1) := by decide +kernel
theorem dX4_firstFresh_11 : decode cX4_firstFresh 11 = .ok (.if_icmp .ge 27, 3) := by decide +kernel
theorem dX4_firstFresh_14 : decode cX4_firstFresh 14 = .ok (.aload_n 0, 1) := by decide +kernel
theorem dX4_firstFresh_15 : decode cX4_firstFresh 15 = .ok (.iload 4, 2) := by decide +kernel
theorem dX4_firstFresh_17 : decode cX4_firstFresh 17 = .ok (.iload_n 1, 1) := by decide +kernel
theorem dX4_firstFresh_18 : decode cX4_firstFresh 18 = .ok (.invokestatic 56, 3) := by decide +kernel
theorem dX4_firstFresh_21 : decode cX4_firstFresh 21 = .ok (.iload_n 2, 1) := by decide +kernel
theorem dX4_firstFresh_22 : decode cX4_firstFresh 22 = .ok (.iconst (-1), 1) := by decide +kernel
theorem dX4_firstFresh_23 : decode cX4_firstFresh 23 = .ok (.invokestatic 43, 3) := by decide +kernel
theorem dX4_firstFresh_26 : decode cX4_firstFresh 26 = .ok (.ifCond .eq 6, 3) := by decide +kernel
theorem dX4_firstFresh_29 : decode cX4_firstFresh 29 = .ok (.iload 4, 2) := by decide +kernel
theorem dX4_firstFresh_31 : decode cX4_firstFresh 31 = .ok (.ireturn, 1) := by decide +kernel
theorem dX4_firstFresh_32 : decode cX4_firstFresh 32 = .ok (.iinc 4 1, 3) := by decide +kernel
theorem dX4_firstFresh_35 : decode cX4_firstFresh 35 = .ok (.goto (-27), 3) := by decide +kernel
theorem dX4_firstFresh_38 : decode cX4_firstFresh 38 = .ok (.iconst (-1), 1) := by decide +kernel
theorem dX4_firstFresh_39 : decode cX4_firstFresh 39 = .ok (.ireturn, 1) := by decide +kernel
theorem dX4_fewestChanges_0 : decode cX4_fewestChanges 0 = .ok (.aload_n 0, 1) := by decide +kernel
theorem dX4_fewestChanges_1 : decode cX4_fewestChanges 1 = .ok (.iload_n 1, 1) := by decide +kernel
theorem dX4_fewestChanges_2 : decode cX4_fewestChanges 2 = .ok (.invokevirtual 24, 3) := by decide +kernel
theorem dX4_fewestChanges_5 : decode cX4_fewestChanges 5 = .ok (.istore_n 3, 1) := by decide +kernel
theorem dX4_fewestChanges_6 : decode cX4_fewestChanges 6 = .ok (.iload_n 3, 1) := by decide +kernel
theorem dX4_fewestChanges_7 : decode cX4_fewestChanges 7 = .ok (.invokestatic 53, 3) := by decide +kernel
theorem dX4_fewestChanges_10 : decode cX4_fewestChanges 10 = .ok (.istore 4, 2) := by decide +kernel
theorem dX4_fewestChanges_12 : decode cX4_fewestChanges 12 = .ok (.iconst (-1), 1) := by decide +kernel
theorem dX4_fewestChanges_13 : decode cX4_fewestChanges 13 = .ok (.istore 5, 2) := by decide +kernel
theorem dX4_fewestChanges_15 : decode cX4_fewestChanges 15 = .ok (.iconst 0, 1) := by decide +kernel
theorem dX4_fewestChanges_16 : decode cX4_fewestChanges 16 = .ok (.istore 6, 2) := by decide +kernel
theorem dX4_fewestChanges_18 : decode cX4_fewestChanges 18 = .ok (.iload 6, 2) := by decide +kernel
theorem dX4_fewestChanges_20 : decode cX4_fewestChanges 20 = .ok (.iload 4, 2) := by decide +kernel
theorem dX4_fewestChanges_22 : decode cX4_fewestChanges 22 = .ok (.if_icmp .ge 57, 3) := by decide +kernel
theorem dX4_fewestChanges_25 : decode cX4_fewestChanges 25 = .ok (.iload 6, 2) := by decide +kernel
theorem dX4_fewestChanges_27 : decode cX4_fewestChanges 27 = .ok (.iload_n 3, 1) := by decide +kernel
theorem dX4_fewestChanges_28 : decode cX4_fewestChanges 28 = .ok (.invokestatic 56, 3) := by decide +kernel
theorem dX4_fewestChanges_31 : decode cX4_fewestChanges 31 = .ok (.istore 7, 2) := by decide +kernel
theorem dX4_fewestChanges_33 : decode cX4_fewestChanges 33 = .ok (.iload 7, 2) := by decide +kernel
theorem dX4_fewestChanges_35 : decode cX4_fewestChanges 35 = .ok (.aload_n 0, 1) := by decide +kernel
theorem dX4_fewestChanges_36 : decode cX4_fewestChanges 36 = .ok (.iload_n 1, 1) := by decide +kernel
theorem dX4_fewestChanges_37 : decode cX4_fewestChanges 37 = .ok (.invokevirtual 40, 3) := by decide +kernel
theorem dX4_fewestChanges_40 : decode cX4_fewestChanges 40 = .ok (.invokestatic 47, 3) := by decide +kernel
theorem dX4_fewestChanges_43 : decode cX4_fewestChanges 43 = .ok (.istore 8, 2) := by decide +kernel
theorem dX4_fewestChanges_45 : decode cX4_fewestChanges 45 = .ok (.iload 5, 2) := by decide +kernel
theorem dX4_fewestChanges_47 : decode cX4_fewestChanges 47 = .ok (.iconst (-1), 1) := by decide +kernel
theorem dX4_fewestChanges_48 : decode cX4_fewestChanges 48 = .ok (.if_icmp .eq 10, 3) := by decide +kernel
theorem dX4_fewestChanges_51 : decode cX4_fewestChanges 51 = .ok (.iload 8, 2) := by decide +kernel
theorem dX4_fewestChanges_53 : decode cX4_fewestChanges 53 = .ok (.iload 5, 2) := by decide +kernel
theorem dX4_fewestChanges_55 : decode cX4_fewestChanges 55 = .ok (.if_icmp .ge 18, 3) := by decide +kernel
theorem dX4_fewestChanges_58 : decode cX4_fewestChanges 58 = .ok (.aload_n 0, 1) := by decide +kernel
theorem dX4_fewestChanges_59 : decode cX4_fewestChanges 59 = .ok (.iload 7, 2) := by decide +kernel
theorem dX4_fewestChanges_61 : decode cX4_fewestChanges 61 = .ok (.iload_n 2, 1) := by decide +kernel
theorem dX4_fewestChanges_62 : decode cX4_fewestChanges 62 = .ok (.iload_n 1, 1) := by decide +kernel
theorem dX4_fewestChanges_63 : decode cX4_fewestChanges 63 = .ok (.invokestatic 43, 3) := by decide +kernel
theorem dX4_fewestChanges_66 : decode cX4_fewestChanges 66 = .ok (.ifCond .eq 7, 3) := by decide +kernel
theorem dX4_fewestChanges_69 : decode cX4_fewestChanges 69 = .ok (.iload 8, 2) := by decide +kernel
theorem dX4_fewestChanges_71 : decode cX4_fewestChanges 71 = .ok (.istore 5, 2) := by decide +kernel
theorem dX4_fewestChanges_73 : decode cX4_fewestChanges 73 = .ok (.iinc 6 1, 3) := by decide +kernel
theorem dX4_fewestChanges_76 : decode cX4_fewestChanges 76 = .ok (.goto (-58), 3) := by decide +kernel
theorem dX4_fewestChanges_79 : decode cX4_fewestChanges 79 = .ok (.iload 5, 2) := by decide +kernel
theorem dX4_fewestChanges_81 : decode cX4_fewestChanges 81 = .ok (.ireturn, 1) := by decide +kernel
theorem dX4_bestSet_0 : decode cX4_bestSet 0 = .ok (.aload_n 0, 1) := by decide +kernel
theorem dX4_bestSet_1 : decode cX4_bestSet 1 = .ok (.aload_n 1, 1) := by decide +kernel
theorem dX4_bestSet_2 : decode cX4_bestSet 2 = .ok (.iload_n 2, 1) := by decide +kernel
theorem dX4_bestSet_3 : decode cX4_bestSet 3 = .ok (.invokevirtual 59, 3) := by decide +kernel
theorem dX4_bestSet_6 : decode cX4_bestSet 6 = .ok (.iconst 0, 1) := by decide +kernel
theorem dX4_bestSet_7 : decode cX4_bestSet 7 = .ok (.istore_n 3, 1) := by decide +kernel
theorem dX4_bestSet_8 : decode cX4_bestSet 8 = .ok (.iconst 0, 1) := by decide +kernel
theorem dX4_bestSet_9 : decode cX4_bestSet 9 = .ok (.istore 4, 2) := by decide +kernel
theorem dX4_bestSet_11 : decode cX4_bestSet 11 = .ok (.iconst 1, 1) := by decide +kernel
theorem dX4_bestSet_12 : decode cX4_bestSet 12 = .ok (.istore 5, 2) := by decide +kernel
theorem dX4_bestSet_14 : decode cX4_bestSet 14 = .ok (.iload 5, 2) := by decide +kernel
theorem dX4_bestSet_16 : decode cX4_bestSet 16 = .ok (.iconst 1, 1) := by decide +kernel
theorem dX4_bestSet_17 : decode cX4_bestSet 17 = .ok (.aload_n 1, 1) := by decide +kernel
theorem dX4_bestSet_18 : decode cX4_bestSet 18 = .ok (.getfield 36, 3) := by decide +kernel
theorem dX4_bestSet_21 : decode cX4_bestSet 21 = .ok (.ishl, 1) := by decide +kernel
theorem dX4_bestSet_22 : decode cX4_bestSet 22 = .ok (.if_icmp .ge 32, 3) := by decide +kernel
theorem dX4_bestSet_25 : decode cX4_bestSet 25 = .ok (.aload_n 0, 1) := by decide +kernel
theorem dX4_bestSet_26 : decode cX4_bestSet 26 = .ok (.aload_n 1, 1) := by decide +kernel
theorem dX4_bestSet_27 : decode cX4_bestSet 27 = .ok (.iload 5, 2) := by decide +kernel
theorem dX4_bestSet_29 : decode cX4_bestSet 29 = .ok (.invokevirtual 63, 3) := by decide +kernel
theorem dX4_bestSet_32 : decode cX4_bestSet 32 = .ok (.istore 6, 2) := by decide +kernel
theorem dX4_bestSet_34 : decode cX4_bestSet 34 = .ok (.iload 6, 2) := by decide +kernel
theorem dX4_bestSet_36 : decode cX4_bestSet 36 = .ok (.iload 4, 2) := by decide +kernel
theorem dX4_bestSet_38 : decode cX4_bestSet 38 = .ok (.if_icmp .le 10, 3) := by decide +kernel
theorem dX4_bestSet_41 : decode cX4_bestSet 41 = .ok (.iload 5, 2) := by decide +kernel
theorem dX4_bestSet_43 : decode cX4_bestSet 43 = .ok (.istore_n 3, 1) := by decide +kernel
theorem dX4_bestSet_44 : decode cX4_bestSet 44 = .ok (.iload 6, 2) := by decide +kernel
theorem dX4_bestSet_46 : decode cX4_bestSet 46 = .ok (.istore 4, 2) := by decide +kernel
theorem dX4_bestSet_48 : decode cX4_bestSet 48 = .ok (.iinc 5 1, 3) := by decide +kernel
theorem dX4_bestSet_51 : decode cX4_bestSet 51 = .ok (.goto (-37), 3) := by decide +kernel
theorem dX4_bestSet_54 : decode cX4_bestSet 54 = .ok (.iload_n 3, 1) := by decide +kernel
theorem dX4_bestSet_55 : decode cX4_bestSet 55 = .ok (.ireturn, 1) := by decide +kernel
theorem dX4_findTooNear_0 : decode cX4_findTooNear 0 = .ok (.iconst 0, 1) := by decide +kernel
theorem dX4_findTooNear_1 : decode cX4_findTooNear 1 = .ok (.istore_n 3, 1) := by decide +kernel
theorem dX4_findTooNear_2 : decode cX4_findTooNear 2 = .ok (.iload_n 3, 1) := by decide +kernel
theorem dX4_findTooNear_3 : decode cX4_findTooNear 3 = .ok (.aload_n 1, 1) := by decide +kernel
theorem dX4_findTooNear_4 : decode cX4_findTooNear 4 = .ok (.getfield 36, 3) := by decide +kernel
theorem dX4_findTooNear_7 : decode cX4_findTooNear 7 = .ok (.if_icmp .ge 80, 3) := by decide +kernel
theorem dX4_findTooNear_10 : decode cX4_findTooNear 10 = .ok (.iload_n 3, 1) := by decide +kernel
theorem dX4_findTooNear_11 : decode cX4_findTooNear 11 = .ok (.aload_n 0, 1) := by decide +kernel
theorem dX4_findTooNear_12 : decode cX4_findTooNear 12 = .ok (.getfield 11, 3) := by decide +kernel
theorem dX4_findTooNear_15 : decode cX4_findTooNear 15 = .ok (.arraylength, 1) := by decide +kernel
theorem dX4_findTooNear_16 : decode cX4_findTooNear 16 = .ok (.if_icmp .ge 71, 3) := by decide +kernel
theorem dX4_findTooNear_19 : decode cX4_findTooNear 19 = .ok (.iconst 0, 1) := by decide +kernel
theorem dX4_findTooNear_20 : decode cX4_findTooNear 20 = .ok (.istore 4, 2) := by decide +kernel
theorem dX4_findTooNear_22 : decode cX4_findTooNear 22 = .ok (.iconst 0, 1) := by decide +kernel
theorem dX4_findTooNear_23 : decode cX4_findTooNear 23 = .ok (.istore 5, 2) := by decide +kernel
theorem dX4_findTooNear_25 : decode cX4_findTooNear 25 = .ok (.iload 5, 2) := by decide +kernel
theorem dX4_findTooNear_27 : decode cX4_findTooNear 27 = .ok (.aload_n 1, 1) := by decide +kernel
theorem dX4_findTooNear_28 : decode cX4_findTooNear 28 = .ok (.getfield 36, 3) := by decide +kernel
theorem dX4_findTooNear_31 : decode cX4_findTooNear 31 = .ok (.if_icmp .ge 42, 3) := by decide +kernel
theorem dX4_findTooNear_34 : decode cX4_findTooNear 34 = .ok (.iload 5, 2) := by decide +kernel
theorem dX4_findTooNear_36 : decode cX4_findTooNear 36 = .ok (.iload_n 3, 1) := by decide +kernel
theorem dX4_findTooNear_37 : decode cX4_findTooNear 37 = .ok (.if_icmp .eq 30, 3) := by decide +kernel
theorem dX4_findTooNear_40 : decode cX4_findTooNear 40 = .ok (.aload_n 1, 1) := by decide +kernel
theorem dX4_findTooNear_41 : decode cX4_findTooNear 41 = .ok (.iload_n 3, 1) := by decide +kernel
theorem dX4_findTooNear_42 : decode cX4_findTooNear 42 = .ok (.invokevirtual 40, 3) := by decide +kernel
theorem dX4_findTooNear_45 : decode cX4_findTooNear 45 = .ok (.aload_n 1, 1) := by decide +kernel
theorem dX4_findTooNear_46 : decode cX4_findTooNear 46 = .ok (.iload 5, 2) := by decide +kernel
theorem dX4_findTooNear_48 : decode cX4_findTooNear 48 = .ok (.invokevirtual 40, 3) := by decide +kernel
theorem dX4_findTooNear_51 : decode cX4_findTooNear 51 = .ok (.invokestatic 47, 3) := by decide +kernel
theorem dX4_findTooNear_54 : decode cX4_findTooNear 54 = .ok (.iload_n 2, 1) := by decide +kernel
theorem dX4_findTooNear_55 : decode cX4_findTooNear 55 = .ok (.if_icmp .ge 12, 3) := by decide +kernel
theorem dX4_findTooNear_58 : decode cX4_findTooNear 58 = .ok (.iload 4, 2) := by decide +kernel
theorem dX4_findTooNear_60 : decode cX4_findTooNear 60 = .ok (.iconst 1, 1) := by decide +kernel
theorem dX4_findTooNear_61 : decode cX4_findTooNear 61 = .ok (.iload 5, 2) := by decide +kernel
theorem dX4_findTooNear_63 : decode cX4_findTooNear 63 = .ok (.ishl, 1) := by decide +kernel
theorem dX4_findTooNear_64 : decode cX4_findTooNear 64 = .ok (.ior, 1) := by decide +kernel
theorem dX4_findTooNear_65 : decode cX4_findTooNear 65 = .ok (.istore 4, 2) := by decide +kernel
theorem dX4_findTooNear_67 : decode cX4_findTooNear 67 = .ok (.iinc 5 1, 3) := by decide +kernel
theorem dX4_findTooNear_70 : decode cX4_findTooNear 70 = .ok (.goto (-45), 3) := by decide +kernel
theorem dX4_findTooNear_73 : decode cX4_findTooNear 73 = .ok (.aload_n 0, 1) := by decide +kernel
theorem dX4_findTooNear_74 : decode cX4_findTooNear 74 = .ok (.getfield 11, 3) := by decide +kernel
theorem dX4_findTooNear_77 : decode cX4_findTooNear 77 = .ok (.iload_n 3, 1) := by decide +kernel
theorem dX4_findTooNear_78 : decode cX4_findTooNear 78 = .ok (.iload 4, 2) := by decide +kernel
theorem dX4_findTooNear_80 : decode cX4_findTooNear 80 = .ok (.iastore, 1) := by decide +kernel
theorem dX4_findTooNear_81 : decode cX4_findTooNear 81 = .ok (.iinc 3 1, 3) := by decide +kernel
theorem dX4_findTooNear_84 : decode cX4_findTooNear 84 = .ok (.goto (-82), 3) := by decide +kernel
theorem dX4_findTooNear_87 : decode cX4_findTooNear 87 = .ok (.return_, 1) := by decide +kernel
theorem dX4_usesIfKept_0 : decode cX4_usesIfKept 0 = .ok (.iconst 0, 1) := by decide +kernel
theorem dX4_usesIfKept_1 : decode cX4_usesIfKept 1 = .ok (.istore_n 3, 1) := by decide +kernel
theorem dX4_usesIfKept_2 : decode cX4_usesIfKept 2 = .ok (.iconst 0, 1) := by decide +kernel
theorem dX4_usesIfKept_3 : decode cX4_usesIfKept 3 = .ok (.istore 4, 2) := by decide +kernel
theorem dX4_usesIfKept_5 : decode cX4_usesIfKept 5 = .ok (.iload 4, 2) := by decide +kernel
theorem dX4_usesIfKept_7 : decode cX4_usesIfKept 7 = .ok (.aload_n 1, 1) := by decide +kernel
theorem dX4_usesIfKept_8 : decode cX4_usesIfKept 8 = .ok (.getfield 36, 3) := by decide +kernel
theorem dX4_usesIfKept_11 : decode cX4_usesIfKept 11 = .ok (.if_icmp .ge 52, 3) := by decide +kernel
theorem dX4_usesIfKept_14 : decode cX4_usesIfKept 14 = .ok (.iload 4, 2) := by decide +kernel
theorem dX4_usesIfKept_16 : decode cX4_usesIfKept 16 = .ok (.aload_n 0, 1) := by decide +kernel
theorem dX4_usesIfKept_17 : decode cX4_usesIfKept 17 = .ok (.getfield 11, 3) := by decide +kernel
theorem dX4_usesIfKept_20 : decode cX4_usesIfKept 20 = .ok (.arraylength, 1) := by decide +kernel
theorem dX4_usesIfKept_21 : decode cX4_usesIfKept 21 = .ok (.if_icmp .ge 42, 3) := by decide +kernel
theorem dX4_usesIfKept_24 : decode cX4_usesIfKept 24 = .ok (.iload_n 2, 1) := by decide +kernel
theorem dX4_usesIfKept_25 : decode cX4_usesIfKept 25 = .ok (.iload 4, 2) := by decide +kernel
theorem dX4_usesIfKept_27 : decode cX4_usesIfKept 27 = .ok (.ishr, 1) := by decide +kernel
theorem dX4_usesIfKept_28 : decode cX4_usesIfKept 28 = .ok (.iconst 1, 1) := by decide +kernel
theorem dX4_usesIfKept_29 : decode cX4_usesIfKept 29 = .ok (.iand, 1) := by decide +kernel
theorem dX4_usesIfKept_30 : decode cX4_usesIfKept 30 = .ok (.iconst 1, 1) := by decide +kernel
theorem dX4_usesIfKept_31 : decode cX4_usesIfKept 31 = .ok (.if_icmp .ne 26, 3) := by decide +kernel
theorem dX4_usesIfKept_34 : decode cX4_usesIfKept 34 = .ok (.aload_n 0, 1) := by decide +kernel
theorem dX4_usesIfKept_35 : decode cX4_usesIfKept 35 = .ok (.getfield 11, 3) := by decide +kernel
theorem dX4_usesIfKept_38 : decode cX4_usesIfKept 38 = .ok (.iload 4, 2) := by decide +kernel
theorem dX4_usesIfKept_40 : decode cX4_usesIfKept 40 = .ok (.iaload, 1) := by decide +kernel
theorem dX4_usesIfKept_41 : decode cX4_usesIfKept 41 = .ok (.iload_n 2, 1) := by decide +kernel
theorem dX4_usesIfKept_42 : decode cX4_usesIfKept 42 = .ok (.iand, 1) := by decide +kernel
theorem dX4_usesIfKept_43 : decode cX4_usesIfKept 43 = .ok (.ifCond .eq 5, 3) := by decide +kernel
theorem dX4_usesIfKept_46 : decode cX4_usesIfKept 46 = .ok (.iconst 0, 1) := by decide +kernel
theorem dX4_usesIfKept_47 : decode cX4_usesIfKept 47 = .ok (.ireturn, 1) := by decide +kernel
theorem dX4_usesIfKept_48 : decode cX4_usesIfKept 48 = .ok (.iload_n 3, 1) := by decide +kernel
theorem dX4_usesIfKept_49 : decode cX4_usesIfKept 49 = .ok (.aload_n 1, 1) := by decide +kernel
theorem dX4_usesIfKept_50 : decode cX4_usesIfKept 50 = .ok (.iload 4, 2) := by decide +kernel
theorem dX4_usesIfKept_52 : decode cX4_usesIfKept 52 = .ok (.invokevirtual 67, 3) := by decide +kernel
theorem dX4_usesIfKept_55 : decode cX4_usesIfKept 55 = .ok (.iadd, 1) := by decide +kernel
theorem dX4_usesIfKept_56 : decode cX4_usesIfKept 56 = .ok (.istore_n 3, 1) := by decide +kernel
theorem dX4_usesIfKept_57 : decode cX4_usesIfKept 57 = .ok (.iinc 4 1, 3) := by decide +kernel
theorem dX4_usesIfKept_60 : decode cX4_usesIfKept 60 = .ok (.goto (-55), 3) := by decide +kernel
theorem dX4_usesIfKept_63 : decode cX4_usesIfKept 63 = .ok (.iload_n 3, 1) := by decide +kernel
theorem dX4_usesIfKept_64 : decode cX4_usesIfKept 64 = .ok (.ireturn, 1) := by decide +kernel
theorem dX5_readCamp_0 : decode cX5_readCamp 0 = .ok (.aload_n 0, 1) := by decide +kernel
theorem dX5_readCamp_1 : decode cX5_readCamp 1 = .ok (.invokevirtual 7, 3) := by decide +kernel
theorem dX5_readCamp_4 : decode cX5_readCamp 4 = .ok (.iconst 1, 1) := by decide +kernel
theorem dX5_readCamp_5 : decode cX5_readCamp 5 = .ok (.istore_n 2, 1) := by decide +kernel
theorem dX5_readCamp_6 : decode cX5_readCamp 6 = .ok (.iload_n 2, 1) := by decide +kernel
theorem dX5_readCamp_7 : decode cX5_readCamp 7 = .ok (.aload_n 0, 1) := by decide +kernel
theorem dX5_readCamp_8 : decode cX5_readCamp 8 = .ok (.getfield 12, 3) := by decide +kernel
theorem dX5_readCamp_11 : decode cX5_readCamp 11 = .ok (.if_icmp .gt 53, 3) := by decide +kernel
theorem dX5_readCamp_14 : decode cX5_readCamp 14 = .ok (.aload_n 0, 1) := by decide +kernel
theorem dX5_readCamp_15 : decode cX5_readCamp 15 = .ok (.aload_n 1, 1) := by decide +kernel
theorem dX5_readCamp_16 : decode cX5_readCamp 16 = .ok (.invokestatic 16, 3) := by decide +kernel
theorem dX5_readCamp_19 : decode cX5_readCamp 19 = .ok (.ifCond .ne 11, 3) := by decide +kernel
theorem dX5_readCamp_22 : decode cX5_readCamp 22 = .ok (.bipush (-20), 2) := by decide +kernel
theorem dX5_readCamp_24 : decode cX5_readCamp 24 = .ok (.aload_n 0, 1) := by decide +kernel
theorem dX5_readCamp_25 : decode cX5_readCamp 25 = .ok (.getfield 22, 3) := by decide +kernel
theorem dX5_readCamp_28 : decode cX5_readCamp 28 = .ok (.isub, 1) := by decide +kernel
theorem dX5_readCamp_29 : decode cX5_readCamp 29 = .ok (.ireturn, 1) := by decide +kernel
theorem dX5_readCamp_30 : decode cX5_readCamp 30 = .ok (.aload_n 0, 1) := by decide +kernel
theorem dX5_readCamp_31 : decode cX5_readCamp 31 = .ok (.invokevirtual 25, 3) := by decide +kernel
theorem dX5_readCamp_34 : decode cX5_readCamp 34 = .ok (.ifCond .eq 5, 3) := by decide +kernel
theorem dX5_readCamp_37 : decode cX5_readCamp 37 = .ok (.iload_n 2, 1) := by decide +kernel
theorem dX5_readCamp_38 : decode cX5_readCamp 38 = .ok (.ireturn, 1) := by decide +kernel
theorem dX5_readCamp_39 : decode cX5_readCamp 39 = .ok (.aload_n 0, 1) := by decide +kernel
theorem dX5_readCamp_40 : decode cX5_readCamp 40 = .ok (.invokevirtual 29, 3) := by decide +kernel
theorem dX5_readCamp_43 : decode cX5_readCamp 43 = .ok (.ifCond .ne 11, 3) := by decide +kernel
theorem dX5_readCamp_46 : decode cX5_readCamp 46 = .ok (.bipush (-20), 2) := by decide +kernel
theorem dX5_readCamp_48 : decode cX5_readCamp 48 = .ok (.aload_n 0, 1) := by decide +kernel
theorem dX5_readCamp_49 : decode cX5_readCamp 49 = .ok (.getfield 22, 3) := by decide +kernel
theorem dX5_readCamp_52 : decode cX5_readCamp 52 = .ok (.isub, 1) := by decide +kernel
theorem dX5_readCamp_53 : decode cX5_readCamp 53 = .ok (.ireturn, 1) := by decide +kernel
theorem dX5_readCamp_54 : decode cX5_readCamp 54 = .ok (.aload_n 0, 1) := by decide +kernel
theorem dX5_readCamp_55 : decode cX5_readCamp 55 = .ok (.invokevirtual 32, 3) := by decide +kernel
theorem dX5_readCamp_58 : decode cX5_readCamp 58 = .ok (.iinc 2 1, 3) := by decide +kernel
theorem dX5_readCamp_61 : decode cX5_readCamp 61 = .ok (.goto (-55), 3) := by decide +kernel
theorem dX5_readCamp_64 : decode cX5_readCamp 64 = .ok (.bipush (-20), 2) := by decide +kernel
theorem dX5_readCamp_66 : decode cX5_readCamp 66 = .ok (.aload_n 0, 1) := by decide +kernel
theorem dX5_readCamp_67 : decode cX5_readCamp 67 = .ok (.getfield 22, 3) := by decide +kernel
theorem dX5_readCamp_70 : decode cX5_readCamp 70 = .ok (.isub, 1) := by decide +kernel
theorem dX5_readCamp_71 : decode cX5_readCamp 71 = .ok (.ireturn, 1) := by decide +kernel
theorem dX5_isStatementRead_0 : decode cX5_isStatementRead 0 = .ok (.aload_n 0, 1) := by decide +kernel
theorem dX5_isStatementRead_1 : decode cX5_isStatementRead 1 = .ok (.ldc 35, 2) := by decide +kernel
theorem dX5_isStatementRead_3 : decode cX5_isStatementRead 3 = .ok (.invokevirtual 37, 3) := by decide +kernel
theorem dX5_isStatementRead_6 : decode cX5_isStatementRead 6 = .ok (.ifCond .eq 24, 3) := by decide +kernel
theorem dX5_isStatementRead_9 : decode cX5_isStatementRead 9 = .ok (.aload_n 1, 1) := by decide +kernel
theorem dX5_isStatementRead_10 : decode cX5_isStatementRead 10 = .ok (.invokevirtual 41, 3) := by decide +kernel
theorem dX5_isStatementRead_13 : decode cX5_isStatementRead 13 = .ok (.ifCond .eq 15, 3) := by decide +kernel
theorem dX5_isStatementRead_16 : decode cX5_isStatementRead 16 = .ok (.aload_n 0, 1) := by decide +kernel
theorem dX5_isStatementRead_17 : decode cX5_isStatementRead 17 = .ok (.aload_n 1, 1) := by decide +kernel
theorem dX5_isStatementRead_18 : decode cX5_isStatementRead 18 = .ok (.invokestatic 46, 3) := by decide +kernel
theorem dX5_isStatementRead_21 : decode cX5_isStatementRead 21 = .ok (.ifCond .eq 7, 3) := by decide +kernel
theorem dX5_isStatementRead_24 : decode cX5_isStatementRead 24 = .ok (.iconst 1, 1) := by decide +kernel
theorem dX5_isStatementRead_25 : decode cX5_isStatementRead 25 = .ok (.goto 4, 3) := by decide +kernel
theorem dX5_isStatementRead_28 : decode cX5_isStatementRead 28 = .ok (.iconst 0, 1) := by decide +kernel
theorem dX5_isStatementRead_29 : decode cX5_isStatementRead 29 = .ok (.ireturn, 1) := by decide +kernel
theorem dX5_isStatementRead_30 : decode cX5_isStatementRead 30 = .ok (.aload_n 0, 1) := by decide +kernel
theorem dX5_isStatementRead_31 : decode cX5_isStatementRead 31 = .ok (.ldc 49, 2) := by decide +kernel
theorem dX5_isStatementRead_33 : decode cX5_isStatementRead 33 = .ok (.invokevirtual 37, 3) := by decide +kernel
theorem dX5_isStatementRead_36 : decode cX5_isStatementRead 36 = .ok (.ifCond .eq 24, 3) := by decide +kernel
theorem dX5_isStatementRead_39 : decode cX5_isStatementRead 39 = .ok (.aload_n 1, 1) := by decide +kernel
theorem dX5_isStatementRead_40 : decode cX5_isStatementRead 40 = .ok (.invokevirtual 51, 3) := by decide +kernel
theorem dX5_isStatementRead_43 : decode cX5_isStatementRead 43 = .ok (.ifCond .eq 15, 3) := by decide +kernel
theorem dX5_isStatementRead_46 : decode cX5_isStatementRead 46 = .ok (.aload_n 0, 1) := by decide +kernel
theorem dX5_isStatementRead_47 : decode cX5_isStatementRead 47 = .ok (.aload_n 1, 1) := by decide +kernel
theorem dX5_isStatementRead_48 : decode cX5_isStatementRead 48 = .ok (.invokestatic 54, 3) := by decide +kernel
theorem dX5_isStatementRead_51 : decode cX5_isStatementRead 51 = .ok (.ifCond .eq 7, 3) := by decide +kernel
theorem dX5_isStatementRead_54 : decode cX5_isStatementRead 54 = .ok (.iconst 1, 1) := by decide +kernel
theorem dX5_isStatementRead_55 : decode cX5_isStatementRead 55 = .ok (.goto 4, 3) := by decide +kernel
theorem dX5_isStatementRead_58 : decode cX5_isStatementRead 58 = .ok (.iconst 0, 1) := by decide +kernel
theorem dX5_isStatementRead_59 : decode cX5_isStatementRead 59 = .ok (.ireturn, 1) := by decide +kernel
theorem dX5_isStatementRead_60 : decode cX5_isStatementRead 60 = .ok (.aload_n 0, 1) := by decide +kernel
theorem dX5_isStatementRead_61 : decode cX5_isStatementRead 61 = .ok (.ldc 57, 2) := by decide +kernel
theorem dX5_isStatementRead_63 : decode cX5_isStatementRead 63 = .ok (.invokevirtual 37, 3) := by decide +kernel
theorem dX5_isStatementRead_66 : decode cX5_isStatementRead 66 = .ok (.ifCond .eq 24, 3) := by decide +kernel
theorem dX5_isStatementRead_69 : decode cX5_isStatementRead 69 = .ok (.aload_n 1, 1) := by decide +kernel
theorem dX5_isStatementRead_70 : decode cX5_isStatementRead 70 = .ok (.invokevirtual 59, 3) := by decide +kernel
theorem dX5_isStatementRead_73 : decode cX5_isStatementRead 73 = .ok (.ifCond .eq 15, 3) := by decide +kernel
theorem dX5_isStatementRead_76 : decode cX5_isStatementRead 76 = .ok (.aload_n 0, 1) := by decide +kernel
theorem dX5_isStatementRead_77 : decode cX5_isStatementRead 77 = .ok (.aload_n 1, 1) := by decide +kernel
theorem dX5_isStatementRead_78 : decode cX5_isStatementRead 78 = .ok (.invokestatic 62, 3) := by decide +kernel
theorem dX5_isStatementRead_81 : decode cX5_isStatementRead 81 = .ok (.ifCond .eq 7, 3) := by decide +kernel
theorem dX5_isStatementRead_84 : decode cX5_isStatementRead 84 = .ok (.iconst 1, 1) := by decide +kernel
theorem dX5_isStatementRead_85 : decode cX5_isStatementRead 85 = .ok (.goto 4, 3) := by decide +kernel
theorem dX5_isStatementRead_88 : decode cX5_isStatementRead 88 = .ok (.iconst 0, 1) := by decide +kernel
theorem dX5_isStatementRead_89 : decode cX5_isStatementRead 89 = .ok (.ireturn, 1) := by decide +kernel
theorem dX5_isStatementRead_90 : decode cX5_isStatementRead 90 = .ok (.aload_n 0, 1) := by decide +kernel
theorem dX5_isStatementRead_91 : decode cX5_isStatementRead 91 = .ok (.ldc 65, 2) := by decide +kernel
theorem dX5_isStatementRead_93 : decode cX5_isStatementRead 93 = .ok (.invokevirtual 37, 3) := by decide +kernel
theorem dX5_isStatementRead_96 : decode cX5_isStatementRead 96 = .ok (.ifCond .eq 9, 3) := by decide +kernel
theorem dX5_isStatementRead_99 : decode cX5_isStatementRead 99 = .ok (.aload_n 0, 1) := by decide +kernel
theorem dX5_isStatementRead_100 : decode cX5_isStatementRead 100 = .ok (.aload_n 1, 1) := by decide +kernel
theorem dX5_isStatementRead_101 : decode cX5_isStatementRead 101 = .ok (.invokestatic 67, 3) := by decide +kernel
theorem dX5_isStatementRead_104 : decode cX5_isStatementRead 104 = .ok (.ireturn, 1) := by decide +kernel
theorem dX5_isStatementRead_105 : decode cX5_isStatementRead 105 = .ok (.aload_n 0, 1) := by decide +kernel
theorem dX5_isStatementRead_106 : decode cX5_isStatementRead 106 = .ok (.ldc 70, 2) := by decide +kernel
theorem dX5_isStatementRead_108 : decode cX5_isStatementRead 108 = .ok (.invokevirtual 37, 3) := by decide +kernel
theorem dX5_isStatementRead_111 : decode cX5_isStatementRead 111 = .ok (.ifCond .eq 9, 3) := by decide +kernel
theorem dX5_isStatementRead_114 : decode cX5_isStatementRead 114 = .ok (.aload_n 0, 1) := by decide +kernel
theorem dX5_isStatementRead_115 : decode cX5_isStatementRead 115 = .ok (.aload_n 1, 1) := by decide +kernel
theorem dX5_isStatementRead_116 : decode cX5_isStatementRead 116 = .ok (.invokestatic 72, 3) := by decide +kernel
theorem dX5_isStatementRead_119 : decode cX5_isStatementRead 119 = .ok (.ireturn, 1) := by decide +kernel
theorem dX5_isStatementRead_120 : decode cX5_isStatementRead 120 = .ok (.aload_n 0, 1) := by decide +kernel
theorem dX5_isStatementRead_121 : decode cX5_isStatementRead 121 = .ok (.ldc 75, 2) := by decide +kernel
theorem dX5_isStatementRead_123 : decode cX5_isStatementRead 123 = .ok (.invokevirtual 37, 3) := by decide +kernel
theorem dX5_isStatementRead_126 : decode cX5_isStatementRead 126 = .ok (.ifCond .eq 15, 3) := by decide +kernel
theorem dX5_isStatementRead_129 : decode cX5_isStatementRead 129 = .ok (.aload_n 0, 1) := by decide +kernel
theorem dX5_isStatementRead_130 : decode cX5_isStatementRead 130 = .ok (.aload_n 1, 1) := by decide +kernel
theorem dX5_isStatementRead_131 : decode cX5_isStatementRead 131 = .ok (.invokestatic 77, 3) := by decide +kernel
theorem dX5_isStatementRead_134 : decode cX5_isStatementRead 134 = .ok (.ifCond .eq 7, 3) := by decide +kernel
theorem dX5_isStatementRead_137 : decode cX5_isStatementRead 137 = .ok (.iconst 1, 1) := by decide +kernel
theorem dX5_isStatementRead_138 : decode cX5_isStatementRead 138 = .ok (.goto 4, 3) := by decide +kernel
theorem dX5_isStatementRead_141 : decode cX5_isStatementRead 141 = .ok (.iconst 0, 1) := by decide +kernel
theorem dX5_isStatementRead_142 : decode cX5_isStatementRead 142 = .ok (.ireturn, 1) := by decide +kernel
theorem dX5_isCallRead_0 : decode cX5_isCallRead 0 = .ok (.aload_n 0, 1) := by decide +kernel
theorem dX5_isCallRead_1 : decode cX5_isCallRead 1 = .ok (.invokevirtual 32, 3) := by decide +kernel
theorem dX5_isCallRead_4 : decode cX5_isCallRead 4 = .ok (.aload_n 0, 1) := by decide +kernel
theorem dX5_isCallRead_5 : decode cX5_isCallRead 5 = .ok (.invokevirtual 80, 3) := by decide +kernel
theorem dX5_isCallRead_8 : decode cX5_isCallRead 8 = .ok (.istore_n 2, 1) := by decide +kernel
theorem dX5_isCallRead_9 : decode cX5_isCallRead 9 = .ok (.iload_n 2, 1) := by decide +kernel
theorem dX5_isCallRead_10 : decode cX5_isCallRead 10 = .ok (.ifCond .ne 5, 3) := by decide +kernel
theorem dX5_isCallRead_13 : decode cX5_isCallRead 13 = .ok (.iconst 0, 1) := by decide +kernel
theorem dX5_isCallRead_14 : decode cX5_isCallRead 14 = .ok (.ireturn, 1) := by decide +kernel
theorem dX5_isCallRead_15 : decode cX5_isCallRead 15 = .ok (.aload_n 1, 1) := by decide +kernel
theorem dX5_isCallRead_16 : decode cX5_isCallRead 16 = .ok (.iconst 1, 1) := by decide +kernel
theorem dX5_isCallRead_17 : decode cX5_isCallRead 17 = .ok (.iconst 0, 1) := by decide +kernel
theorem dX5_isCallRead_18 : decode cX5_isCallRead 18 = .ok (.invokevirtual 84, 3) := by decide +kernel
theorem dX5_isCallRead_21 : decode cX5_isCallRead 21 = .ok (.istore_n 3, 1) := by decide +kernel
theorem dX5_isCallRead_22 : decode cX5_isCallRead 22 = .ok (.iconst 0, 1) := by decide +kernel
theorem dX5_isCallRead_23 : decode cX5_isCallRead 23 = .ok (.istore 4, 2) := by decide +kernel
theorem dX5_isCallRead_25 : decode cX5_isCallRead 25 = .ok (.iload 4, 2) := by decide +kernel
theorem dX5_isCallRead_27 : decode cX5_isCallRead 27 = .ok (.iload_n 2, 1) := by decide +kernel
theorem dX5_isCallRead_28 : decode cX5_isCallRead 28 = .ok (.if_icmp .ge 19, 3) := by decide +kernel
theorem dX5_isCallRead_31 : decode cX5_isCallRead 31 = .ok (.aload_n 1, 1) := by decide +kernel
theorem dX5_isCallRead_32 : decode cX5_isCallRead 32 = .ok (.aload_n 0, 1) := by decide +kernel
theorem dX5_isCallRead_33 : decode cX5_isCallRead 33 = .ok (.iload 4, 2) := by decide +kernel
theorem dX5_isCallRead_35 : decode cX5_isCallRead 35 = .ok (.invokevirtual 88, 3) := by decide +kernel
theorem dX5_isCallRead_38 : decode cX5_isCallRead 38 = .ok (.invokevirtual 92, 3) := by decide +kernel
theorem dX5_isCallRead_41 : decode cX5_isCallRead 41 = .ok (.iinc 4 1, 3) := by decide +kernel
theorem dX5_isCallRead_44 : decode cX5_isCallRead 44 = .ok (.goto (-19), 3) := by decide +kernel
theorem dX5_isCallRead_47 : decode cX5_isCallRead 47 = .ok (.aload_n 0, 1) := by decide +kernel
theorem dX5_isCallRead_48 : decode cX5_isCallRead 48 = .ok (.invokevirtual 32, 3) := by decide +kernel
theorem dX5_isCallRead_51 : decode cX5_isCallRead 51 = .ok (.aload_n 0, 1) := by decide +kernel
theorem dX5_isCallRead_52 : decode cX5_isCallRead 52 = .ok (.invokevirtual 96, 3) := by decide +kernel
theorem dX5_isCallRead_55 : decode cX5_isCallRead 55 = .ok (.istore 4, 2) := by decide +kernel
theorem dX5_isCallRead_57 : decode cX5_isCallRead 57 = .ok (.iload 4, 2) := by decide +kernel
theorem dX5_isCallRead_59 : decode cX5_isCallRead 59 = .ok (.invokestatic 99, 3) := by decide +kernel
theorem dX5_isCallRead_62 : decode cX5_isCallRead 62 = .ok (.ifCond .ne 5, 3) := by decide +kernel
theorem dX5_isCallRead_65 : decode cX5_isCallRead 65 = .ok (.iconst 0, 1) := by decide +kernel
theorem dX5_isCallRead_66 : decode cX5_isCallRead 66 = .ok (.ireturn, 1) := by decide +kernel
theorem dX5_isCallRead_67 : decode cX5_isCallRead 67 = .ok (.aload_n 1, 1) := by decide +kernel
theorem dX5_isCallRead_68 : decode cX5_isCallRead 68 = .ok (.iload_n 3, 1) := by decide +kernel
theorem dX5_isCallRead_69 : decode cX5_isCallRead 69 = .ok (.iload 4, 2) := by decide +kernel
theorem dX5_isCallRead_71 : decode cX5_isCallRead 71 = .ok (.invokevirtual 103, 3) := by decide +kernel
theorem dX5_isCallRead_74 : decode cX5_isCallRead 74 = .ok (.pop, 1) := by decide +kernel
theorem dX5_isCallRead_75 : decode cX5_isCallRead 75 = .ok (.aload_n 0, 1) := by decide +kernel
theorem dX5_isCallRead_76 : decode cX5_isCallRead 76 = .ok (.invokevirtual 32, 3) := by decide +kernel
theorem dX5_isCallRead_79 : decode cX5_isCallRead 79 = .ok (.aload_n 0, 1) := by decide +kernel
theorem dX5_isCallRead_80 : decode cX5_isCallRead 80 = .ok (.invokevirtual 96, 3) := by decide +kernel
theorem dX5_isCallRead_83 : decode cX5_isCallRead 83 = .ok (.istore 5, 2) := by decide +kernel
theorem dX5_isCallRead_85 : decode cX5_isCallRead 85 = .ok (.iload 5, 2) := by decide +kernel
theorem dX5_isCallRead_87 : decode cX5_isCallRead 87 = .ok (.invokestatic 106, 3) := by decide +kernel
theorem dX5_isCallRead_90 : decode cX5_isCallRead 90 = .ok (.ifCond .ne 5, 3) := by decide +kernel
theorem dX5_isCallRead_93 : decode cX5_isCallRead 93 = .ok (.iconst 0, 1) := by decide +kernel
theorem dX5_isCallRead_94 : decode cX5_isCallRead 94 = .ok (.ireturn, 1) := by decide +kernel
theorem dX5_isCallRead_95 : decode cX5_isCallRead 95 = .ok (.aload_n 1, 1) := by decide +kernel
theorem dX5_isCallRead_96 : decode cX5_isCallRead 96 = .ok (.iload_n 3, 1) := by decide +kernel
theorem dX5_isCallRead_97 : decode cX5_isCallRead 97 = .ok (.iload 5, 2) := by decide +kernel
theorem dX5_isCallRead_99 : decode cX5_isCallRead 99 = .ok (.invokevirtual 109, 3) := by decide +kernel
theorem dX5_isCallRead_102 : decode cX5_isCallRead 102 = .ok (.pop, 1) := by decide +kernel
theorem dX5_isCallRead_103 : decode cX5_isCallRead 103 = .ok (.aload_n 0, 1) := by decide +kernel
theorem dX5_isCallRead_104 : decode cX5_isCallRead 104 = .ok (.invokevirtual 32, 3) := by decide +kernel
theorem dX5_isCallRead_107 : decode cX5_isCallRead 107 = .ok (.iconst 1, 1) := by decide +kernel
theorem dX5_isCallRead_108 : decode cX5_isCallRead 108 = .ok (.ireturn, 1) := by decide +kernel
theorem dX5_isEarRead_0 : decode cX5_isEarRead 0 = .ok (.aload_n 0, 1) := by decide +kernel
theorem dX5_isEarRead_1 : decode cX5_isEarRead 1 = .ok (.invokevirtual 32, 3) := by decide +kernel
theorem dX5_isEarRead_4 : decode cX5_isEarRead 4 = .ok (.aload_n 0, 1) := by decide +kernel
theorem dX5_isEarRead_5 : decode cX5_isEarRead 5 = .ok (.invokevirtual 96, 3) := by decide +kernel
theorem dX5_isEarRead_8 : decode cX5_isEarRead 8 = .ok (.istore_n 2, 1) := by decide +kernel
theorem dX5_isEarRead_9 : decode cX5_isEarRead 9 = .ok (.iload_n 2, 1) := by decide +kernel
theorem dX5_isEarRead_10 : decode cX5_isEarRead 10 = .ok (.invokestatic 112, 3) := by decide +kernel
theorem dX5_isEarRead_13 : decode cX5_isEarRead 13 = .ok (.ifCond .ne 5, 3) := by decide +kernel
theorem dX5_isEarRead_16 : decode cX5_isEarRead 16 = .ok (.iconst 0, 1) := by decide +kernel
theorem dX5_isEarRead_17 : decode cX5_isEarRead 17 = .ok (.ireturn, 1) := by decide +kernel
theorem dX5_isEarRead_18 : decode cX5_isEarRead 18 = .ok (.aload_n 0, 1) := by decide +kernel
theorem dX5_isEarRead_19 : decode cX5_isEarRead 19 = .ok (.invokevirtual 32, 3) := by decide +kernel
theorem dX5_isEarRead_22 : decode cX5_isEarRead 22 = .ok (.aload_n 0, 1) := by decide +kernel
theorem dX5_isEarRead_23 : decode cX5_isEarRead 23 = .ok (.invokevirtual 96, 3) := by decide +kernel
theorem dX5_isEarRead_26 : decode cX5_isEarRead 26 = .ok (.istore_n 3, 1) := by decide +kernel
theorem dX5_isEarRead_27 : decode cX5_isEarRead 27 = .ok (.iload_n 3, 1) := by decide +kernel
theorem dX5_isEarRead_28 : decode cX5_isEarRead 28 = .ok (.invokestatic 117, 3) := by decide +kernel
theorem dX5_isEarRead_31 : decode cX5_isEarRead 31 = .ok (.ifCond .ne 5, 3) := by decide +kernel
theorem dX5_isEarRead_34 : decode cX5_isEarRead 34 = .ok (.iconst 0, 1) := by decide +kernel
theorem dX5_isEarRead_35 : decode cX5_isEarRead 35 = .ok (.ireturn, 1) := by decide +kernel
theorem dX5_isEarRead_36 : decode cX5_isEarRead 36 = .ok (.aload_n 1, 1) := by decide +kernel
theorem dX5_isEarRead_37 : decode cX5_isEarRead 37 = .ok (.iload_n 2, 1) := by decide +kernel
theorem dX5_isEarRead_38 : decode cX5_isEarRead 38 = .ok (.iload_n 3, 1) := by decide +kernel
theorem dX5_isEarRead_39 : decode cX5_isEarRead 39 = .ok (.invokevirtual 120, 3) := by decide +kernel
theorem dX5_isEarRead_42 : decode cX5_isEarRead 42 = .ok (.pop, 1) := by decide +kernel
theorem dX5_isEarRead_43 : decode cX5_isEarRead 43 = .ok (.aload_n 0, 1) := by decide +kernel
theorem dX5_isEarRead_44 : decode cX5_isEarRead 44 = .ok (.invokevirtual 32, 3) := by decide +kernel
theorem dX5_isEarRead_47 : decode cX5_isEarRead 47 = .ok (.iconst 1, 1) := by decide +kernel
theorem dX5_isEarRead_48 : decode cX5_isEarRead 48 = .ok (.ireturn, 1) := by decide +kernel
theorem dX5_isManRead_0 : decode cX5_isManRead 0 = .ok (.aload_n 0, 1) := by decide +kernel
theorem dX5_isManRead_1 : decode cX5_isManRead 1 = .ok (.invokevirtual 32, 3) := by decide +kernel
theorem dX5_isManRead_4 : decode cX5_isManRead 4 = .ok (.aload_n 0, 1) := by decide +kernel
theorem dX5_isManRead_5 : decode cX5_isManRead 5 = .ok (.invokevirtual 96, 3) := by decide +kernel
theorem dX5_isManRead_8 : decode cX5_isManRead 8 = .ok (.istore_n 2, 1) := by decide +kernel
theorem dX5_isManRead_9 : decode cX5_isManRead 9 = .ok (.aload_n 1, 1) := by decide +kernel
theorem dX5_isManRead_10 : decode cX5_isManRead 10 = .ok (.iload_n 2, 1) := by decide +kernel
theorem dX5_isManRead_11 : decode cX5_isManRead 11 = .ok (.invokevirtual 123, 3) := by decide +kernel
theorem dX5_isManRead_14 : decode cX5_isManRead 14 = .ok (.ifCond .ne 5, 3) := by decide +kernel
theorem dX5_isManRead_17 : decode cX5_isManRead 17 = .ok (.iconst 0, 1) := by decide +kernel
theorem dX5_isManRead_18 : decode cX5_isManRead 18 = .ok (.ireturn, 1) := by decide +kernel
theorem dX5_isManRead_19 : decode cX5_isManRead 19 = .ok (.aload_n 0, 1) := by decide +kernel
theorem dX5_isManRead_20 : decode cX5_isManRead 20 = .ok (.invokevirtual 32, 3) := by decide +kernel
theorem dX5_isManRead_23 : decode cX5_isManRead 23 = .ok (.aload_n 0, 1) := by decide +kernel
theorem dX5_isManRead_24 : decode cX5_isManRead 24 = .ok (.invokevirtual 96, 3) := by decide +kernel
theorem dX5_isManRead_27 : decode cX5_isManRead 27 = .ok (.istore_n 3, 1) := by decide +kernel
theorem dX5_isManRead_28 : decode cX5_isManRead 28 = .ok (.iload_n 3, 1) := by decide +kernel
theorem dX5_isManRead_29 : decode cX5_isManRead 29 = .ok (.invokestatic 126, 3) := by decide +kernel
theorem dX5_isManRead_32 : decode cX5_isManRead 32 = .ok (.ifCond .ne 5, 3) := by decide +kernel
theorem dX5_isManRead_35 : decode cX5_isManRead 35 = .ok (.iconst 0, 1) := by decide +kernel
theorem dX5_isManRead_36 : decode cX5_isManRead 36 = .ok (.ireturn, 1) := by decide +kernel
theorem dX5_isManRead_37 : decode cX5_isManRead 37 = .ok (.aload_n 1, 1) := by decide +kernel
theorem dX5_isManRead_38 : decode cX5_isManRead 38 = .ok (.iload_n 2, 1) := by decide +kernel
theorem dX5_isManRead_39 : decode cX5_isManRead 39 = .ok (.iload_n 3, 1) := by decide +kernel
theorem dX5_isManRead_40 : decode cX5_isManRead 40 = .ok (.invokevirtual 129, 3) := by decide +kernel
theorem dX5_isManRead_43 : decode cX5_isManRead 43 = .ok (.pop, 1) := by decide +kernel
theorem dX5_isManRead_44 : decode cX5_isManRead 44 = .ok (.aload_n 0, 1) := by decide +kernel
theorem dX5_isManRead_45 : decode cX5_isManRead 45 = .ok (.invokevirtual 32, 3) := by decide +kernel
theorem dX5_isManRead_48 : decode cX5_isManRead 48 = .ok (.iconst 1, 1) := by decide +kernel
theorem dX5_isManRead_49 : decode cX5_isManRead 49 = .ok (.ireturn, 1) := by decide +kernel
theorem dX5_isSureRead_0 : decode cX5_isSureRead 0 = .ok (.aload_n 0, 1) := by decide +kernel
theorem dX5_isSureRead_1 : decode cX5_isSureRead 1 = .ok (.invokevirtual 32, 3) := by decide +kernel
theorem dX5_isSureRead_4 : decode cX5_isSureRead 4 = .ok (.aload_n 0, 1) := by decide +kernel
theorem dX5_isSureRead_5 : decode cX5_isSureRead 5 = .ok (.invokevirtual 96, 3) := by decide +kernel
theorem dX5_isSureRead_8 : decode cX5_isSureRead 8 = .ok (.istore_n 2, 1) := by decide +kernel
theorem dX5_isSureRead_9 : decode cX5_isSureRead 9 = .ok (.iload_n 2, 1) := by decide +kernel
theorem dX5_isSureRead_10 : decode cX5_isSureRead 10 = .ok (.invokestatic 132, 3) := by decide +kernel
theorem dX5_isSureRead_13 : decode cX5_isSureRead 13 = .ok (.ifCond .ne 5, 3) := by decide +kernel
theorem dX5_isSureRead_16 : decode cX5_isSureRead 16 = .ok (.iconst 0, 1) := by decide +kernel
theorem dX5_isSureRead_17 : decode cX5_isSureRead 17 = .ok (.ireturn, 1) := by decide +kernel
theorem dX5_isSureRead_18 : decode cX5_isSureRead 18 = .ok (.aload_n 1, 1) := by decide +kernel
theorem dX5_isSureRead_19 : decode cX5_isSureRead 19 = .ok (.iload_n 2, 1) := by decide +kernel
theorem dX5_isSureRead_20 : decode cX5_isSureRead 20 = .ok (.putfield 135, 3) := by decide +kernel
theorem dX5_isSureRead_23 : decode cX5_isSureRead 23 = .ok (.aload_n 0, 1) := by decide +kernel
theorem dX5_isSureRead_24 : decode cX5_isSureRead 24 = .ok (.invokevirtual 32, 3) := by decide +kernel
theorem dX5_isSureRead_27 : decode cX5_isSureRead 27 = .ok (.iconst 1, 1) := by decide +kernel
theorem dX5_isSureRead_28 : decode cX5_isSureRead 28 = .ok (.ireturn, 1) := by decide +kernel
theorem dX5_isLostRead_0 : decode cX5_isLostRead 0 = .ok (.aload_n 0, 1) := by decide +kernel
theorem dX5_isLostRead_1 : decode cX5_isLostRead 1 = .ok (.invokevirtual 32, 3) := by decide +kernel
theorem dX5_isLostRead_4 : decode cX5_isLostRead 4 = .ok (.aload_n 0, 1) := by decide +kernel
theorem dX5_isLostRead_5 : decode cX5_isLostRead 5 = .ok (.invokevirtual 96, 3) := by decide +kernel
theorem dX5_isLostRead_8 : decode cX5_isLostRead 8 = .ok (.istore_n 2, 1) := by decide +kernel
theorem dX5_isLostRead_9 : decode cX5_isLostRead 9 = .ok (.iload_n 2, 1) := by decide +kernel
theorem dX5_isLostRead_10 : decode cX5_isLostRead 10 = .ok (.invokestatic 137, 3) := by decide +kernel
theorem dX5_isLostRead_13 : decode cX5_isLostRead 13 = .ok (.ifCond .ne 5, 3) := by decide +kernel
theorem dX5_isLostRead_16 : decode cX5_isLostRead 16 = .ok (.iconst 0, 1) := by decide +kernel
theorem dX5_isLostRead_17 : decode cX5_isLostRead 17 = .ok (.ireturn, 1) := by decide +kernel
theorem dX5_isLostRead_18 : decode cX5_isLostRead 18 = .ok (.aload_n 1, 1) := by decide +kernel
theorem dX5_isLostRead_19 : decode cX5_isLostRead 19 = .ok (.iload_n 2, 1) := by decide +kernel
theorem dX5_isLostRead_20 : decode cX5_isLostRead 20 = .ok (.putfield 140, 3) := by decide +kernel
theorem dX5_isLostRead_23 : decode cX5_isLostRead 23 = .ok (.aload_n 0, 1) := by decide +kernel
theorem dX5_isLostRead_24 : decode cX5_isLostRead 24 = .ok (.invokevirtual 32, 3) := by decide +kernel
theorem dX5_isLostRead_27 : decode cX5_isLostRead 27 = .ok (.iconst 1, 1) := by decide +kernel
theorem dX5_isLostRead_28 : decode cX5_isLostRead 28 = .ok (.ireturn, 1) := by decide +kernel
theorem dX5_isUseRead_0 : decode cX5_isUseRead 0 = .ok (.aload_n 0, 1) := by decide +kernel
theorem dX5_isUseRead_1 : decode cX5_isUseRead 1 = .ok (.invokevirtual 32, 3) := by decide +kernel
theorem dX5_isUseRead_4 : decode cX5_isUseRead 4 = .ok (.aload_n 0, 1) := by decide +kernel
theorem dX5_isUseRead_5 : decode cX5_isUseRead 5 = .ok (.invokevirtual 96, 3) := by decide +kernel
theorem dX5_isUseRead_8 : decode cX5_isUseRead 8 = .ok (.istore_n 2, 1) := by decide +kernel
theorem dX5_isUseRead_9 : decode cX5_isUseRead 9 = .ok (.aload_n 1, 1) := by decide +kernel
theorem dX5_isUseRead_10 : decode cX5_isUseRead 10 = .ok (.iload_n 2, 1) := by decide +kernel
theorem dX5_isUseRead_11 : decode cX5_isUseRead 11 = .ok (.invokevirtual 142, 3) := by decide +kernel
theorem dX5_isUseRead_14 : decode cX5_isUseRead 14 = .ok (.ifCond .ne 5, 3) := by decide +kernel
theorem dX5_isUseRead_17 : decode cX5_isUseRead 17 = .ok (.iconst 0, 1) := by decide +kernel
theorem dX5_isUseRead_18 : decode cX5_isUseRead 18 = .ok (.ireturn, 1) := by decide +kernel
theorem dX5_isUseRead_19 : decode cX5_isUseRead 19 = .ok (.aload_n 0, 1) := by decide +kernel
theorem dX5_isUseRead_20 : decode cX5_isUseRead 20 = .ok (.invokevirtual 32, 3) := by decide +kernel
theorem dX5_isUseRead_23 : decode cX5_isUseRead 23 = .ok (.aload_n 0, 1) := by decide +kernel
theorem dX5_isUseRead_24 : decode cX5_isUseRead 24 = .ok (.invokevirtual 96, 3) := by decide +kernel
theorem dX5_isUseRead_27 : decode cX5_isUseRead 27 = .ok (.istore_n 3, 1) := by decide +kernel
theorem dX5_isUseRead_28 : decode cX5_isUseRead 28 = .ok (.iload_n 3, 1) := by decide +kernel
theorem dX5_isUseRead_29 : decode cX5_isUseRead 29 = .ok (.invokestatic 99, 3) := by decide +kernel
theorem dX5_isUseRead_32 : decode cX5_isUseRead 32 = .ok (.ifCond .ne 5, 3) := by decide +kernel
theorem dX5_isUseRead_35 : decode cX5_isUseRead 35 = .ok (.iconst 0, 1) := by decide +kernel
theorem dX5_isUseRead_36 : decode cX5_isUseRead 36 = .ok (.ireturn, 1) := by decide +kernel
theorem dX5_isUseRead_37 : decode cX5_isUseRead 37 = .ok (.aload_n 1, 1) := by decide +kernel
theorem dX5_isUseRead_38 : decode cX5_isUseRead 38 = .ok (.iload_n 2, 1) := by decide +kernel
theorem dX5_isUseRead_39 : decode cX5_isUseRead 39 = .ok (.iload_n 3, 1) := by decide +kernel
theorem dX5_isUseRead_40 : decode cX5_isUseRead 40 = .ok (.invokevirtual 103, 3) := by decide +kernel
theorem dX5_isUseRead_43 : decode cX5_isUseRead 43 = .ok (.pop, 1) := by decide +kernel
theorem dX5_isUseRead_44 : decode cX5_isUseRead 44 = .ok (.aload_n 0, 1) := by decide +kernel
theorem dX5_isUseRead_45 : decode cX5_isUseRead 45 = .ok (.invokevirtual 32, 3) := by decide +kernel
theorem dX5_isUseRead_48 : decode cX5_isUseRead 48 = .ok (.iconst 1, 1) := by decide +kernel
theorem dX5_isUseRead_49 : decode cX5_isUseRead 49 = .ok (.ireturn, 1) := by decide +kernel
