theorem dX6_noteByEar_0 : decode cX6_noteByEar 0 = .ok (.aload_n 0, 1) := by decide +kernel
theorem dX6_noteByEar_1 : decode cX6_noteByEar 1 = .ok (.iload_n 2, 1) := by decide +kernel
theorem dX6_noteByEar_2 : decode cX6_noteByEar 2 = .ok (.invokevirtual 9, 3) := by decide +kernel
theorem dX6_noteByEar_5 : decode cX6_noteByEar 5 = .ok (.istore 4, 2) := by decide +kernel
theorem dX6_noteByEar_7 : decode cX6_noteByEar 7 = .ok (.aload_n 0, 1) := by decide +kernel
theorem dX6_noteByEar_8 : decode cX6_noteByEar 8 = .ok (.iload_n 2, 1) := by decide +kernel
theorem dX6_noteByEar_9 : decode cX6_noteByEar 9 = .ok (.invokevirtual 15, 3) := by decide +kernel
theorem dX6_noteByEar_12 : decode cX6_noteByEar 12 = .ok (.istore 5, 2) := by decide +kernel
theorem dX6_noteByEar_14 : decode cX6_noteByEar 14 = .ok (.iload 4, 2) := by decide +kernel
theorem dX6_noteByEar_16 : decode cX6_noteByEar 16 = .ok (.iload 5, 2) := by decide +kernel
theorem dX6_noteByEar_18 : decode cX6_noteByEar 18 = .ok (.iload_n 3, 1) := by decide +kernel
theorem dX6_noteByEar_19 : decode cX6_noteByEar 19 = .ok (.aload_n 0, 1) := by decide +kernel
theorem dX6_noteByEar_20 : decode cX6_noteByEar 20 = .ok (.iload_n 1, 1) := by decide +kernel
theorem dX6_noteByEar_21 : decode cX6_noteByEar 21 = .ok (.invokevirtual 18, 3) := by decide +kernel
theorem dX6_noteByEar_24 : decode cX6_noteByEar 24 = .ok (.invokestatic 21, 3) := by decide +kernel
theorem dX6_noteByEar_27 : decode cX6_noteByEar 27 = .ok (.ifCond .eq 6, 3) := by decide +kernel
theorem dX6_noteByEar_30 : decode cX6_noteByEar 30 = .ok (.bipush 9, 2) := by decide +kernel
theorem dX6_noteByEar_32 : decode cX6_noteByEar 32 = .ok (.ireturn, 1) := by decide +kernel
theorem dX6_noteByEar_33 : decode cX6_noteByEar 33 = .ok (.iload 4, 2) := by decide +kernel
theorem dX6_noteByEar_35 : decode cX6_noteByEar 35 = .ok (.iload 5, 2) := by decide +kernel
theorem dX6_noteByEar_37 : decode cX6_noteByEar 37 = .ok (.iload_n 3, 1) := by decide +kernel
theorem dX6_noteByEar_38 : decode cX6_noteByEar 38 = .ok (.invokestatic 29, 3) := by decide +kernel
theorem dX6_noteByEar_41 : decode cX6_noteByEar 41 = .ok (.ifCond .eq 12, 3) := by decide +kernel
theorem dX6_noteByEar_44 : decode cX6_noteByEar 44 = .ok (.aload_n 0, 1) := by decide +kernel
theorem dX6_noteByEar_45 : decode cX6_noteByEar 45 = .ok (.iload_n 1, 1) := by decide +kernel
theorem dX6_noteByEar_46 : decode cX6_noteByEar 46 = .ok (.iload_n 3, 1) := by decide +kernel
theorem dX6_noteByEar_47 : decode cX6_noteByEar 47 = .ok (.iconst 1, 1) := by decide +kernel
theorem dX6_noteByEar_48 : decode cX6_noteByEar 48 = .ok (.isub, 1) := by decide +kernel
theorem dX6_noteByEar_49 : decode cX6_noteByEar 49 = .ok (.invokevirtual 33, 3) := by decide +kernel
theorem dX6_noteByEar_52 : decode cX6_noteByEar 52 = .ok (.ireturn, 1) := by decide +kernel
theorem dX6_noteByEar_53 : decode cX6_noteByEar 53 = .ok (.iload 4, 2) := by decide +kernel
theorem dX6_noteByEar_55 : decode cX6_noteByEar 55 = .ok (.aload_n 0, 1) := by decide +kernel
theorem dX6_noteByEar_56 : decode cX6_noteByEar 56 = .ok (.iload_n 1, 1) := by decide +kernel
theorem dX6_noteByEar_57 : decode cX6_noteByEar 57 = .ok (.iload_n 3, 1) := by decide +kernel
theorem dX6_noteByEar_58 : decode cX6_noteByEar 58 = .ok (.invokevirtual 33, 3) := by decide +kernel
theorem dX6_noteByEar_61 : decode cX6_noteByEar 61 = .ok (.invokestatic 37, 3) := by decide +kernel
theorem dX6_noteByEar_64 : decode cX6_noteByEar 64 = .ok (.ireturn, 1) := by decide +kernel
theorem dX6_isFit_0 : decode cX6_isFit 0 = .ok (.aload_n 0, 1) := by decide +kernel
theorem dX6_isFit_1 : decode cX6_isFit 1 = .ok (.iload_n 3, 1) := by decide +kernel
theorem dX6_isFit_2 : decode cX6_isFit 2 = .ok (.invokevirtual 18, 3) := by decide +kernel
theorem dX6_isFit_5 : decode cX6_isFit 5 = .ok (.istore 4, 2) := by decide +kernel
theorem dX6_isFit_7 : decode cX6_isFit 7 = .ok (.iload 4, 2) := by decide +kernel
theorem dX6_isFit_9 : decode cX6_isFit 9 = .ok (.aload_n 1, 1) := by decide +kernel
theorem dX6_isFit_10 : decode cX6_isFit 10 = .ok (.getfield 40, 3) := by decide +kernel
theorem dX6_isFit_13 : decode cX6_isFit 13 = .ok (.if_icmp .lt 19, 3) := by decide +kernel
theorem dX6_isFit_16 : decode cX6_isFit 16 = .ok (.aload_n 1, 1) := by decide +kernel
theorem dX6_isFit_17 : decode cX6_isFit 17 = .ok (.getfield 44, 3) := by decide +kernel
theorem dX6_isFit_20 : decode cX6_isFit 20 = .ok (.ifCond .eq 14, 3) := by decide +kernel
theorem dX6_isFit_23 : decode cX6_isFit 23 = .ok (.iload 4, 2) := by decide +kernel
theorem dX6_isFit_25 : decode cX6_isFit 25 = .ok (.aload_n 1, 1) := by decide +kernel
theorem dX6_isFit_26 : decode cX6_isFit 26 = .ok (.getfield 40, 3) := by decide +kernel
theorem dX6_isFit_29 : decode cX6_isFit 29 = .ok (.if_icmp .eq 5, 3) := by decide +kernel
theorem dX6_isFit_32 : decode cX6_isFit 32 = .ok (.iconst 0, 1) := by decide +kernel
theorem dX6_isFit_33 : decode cX6_isFit 33 = .ok (.ireturn, 1) := by decide +kernel
theorem dX6_isFit_34 : decode cX6_isFit 34 = .ok (.iconst 0, 1) := by decide +kernel
theorem dX6_isFit_35 : decode cX6_isFit 35 = .ok (.istore 5, 2) := by decide +kernel
theorem dX6_isFit_37 : decode cX6_isFit 37 = .ok (.iload 5, 2) := by decide +kernel
theorem dX6_isFit_39 : decode cX6_isFit 39 = .ok (.aload_n 1, 1) := by decide +kernel
theorem dX6_isFit_40 : decode cX6_isFit 40 = .ok (.getfield 40, 3) := by decide +kernel
theorem dX6_isFit_43 : decode cX6_isFit 43 = .ok (.if_icmp .ge 50, 3) := by decide +kernel
theorem dX6_isFit_46 : decode cX6_isFit 46 = .ok (.aload_n 1, 1) := by decide +kernel
theorem dX6_isFit_47 : decode cX6_isFit 47 = .ok (.iload 5, 2) := by decide +kernel
theorem dX6_isFit_49 : decode cX6_isFit 49 = .ok (.invokevirtual 48, 3) := by decide +kernel
theorem dX6_isFit_52 : decode cX6_isFit 52 = .ok (.istore 6, 2) := by decide +kernel
theorem dX6_isFit_54 : decode cX6_isFit 54 = .ok (.aload_n 0, 1) := by decide +kernel
theorem dX6_isFit_55 : decode cX6_isFit 55 = .ok (.iload_n 3, 1) := by decide +kernel
theorem dX6_isFit_56 : decode cX6_isFit 56 = .ok (.iload_n 2, 1) := by decide +kernel
theorem dX6_isFit_57 : decode cX6_isFit 57 = .ok (.iload 5, 2) := by decide +kernel
theorem dX6_isFit_59 : decode cX6_isFit 59 = .ok (.invokestatic 50, 3) := by decide +kernel
theorem dX6_isFit_62 : decode cX6_isFit 62 = .ok (.istore 7, 2) := by decide +kernel
theorem dX6_isFit_64 : decode cX6_isFit 64 = .ok (.iload 6, 2) := by decide +kernel
theorem dX6_isFit_66 : decode cX6_isFit 66 = .ok (.iload 7, 2) := by decide +kernel
theorem dX6_isFit_68 : decode cX6_isFit 68 = .ok (.if_icmp .eq 19, 3) := by decide +kernel
theorem dX6_isFit_71 : decode cX6_isFit 71 = .ok (.iload 6, 2) := by decide +kernel
theorem dX6_isFit_73 : decode cX6_isFit 73 = .ok (.bipush 9, 2) := by decide +kernel
theorem dX6_isFit_75 : decode cX6_isFit 75 = .ok (.if_icmp .eq 12, 3) := by decide +kernel
theorem dX6_isFit_78 : decode cX6_isFit 78 = .ok (.iload 7, 2) := by decide +kernel
theorem dX6_isFit_80 : decode cX6_isFit 80 = .ok (.bipush 9, 2) := by decide +kernel
theorem dX6_isFit_82 : decode cX6_isFit 82 = .ok (.if_icmp .eq 5, 3) := by decide +kernel
theorem dX6_isFit_85 : decode cX6_isFit 85 = .ok (.iconst 0, 1) := by decide +kernel
theorem dX6_isFit_86 : decode cX6_isFit 86 = .ok (.ireturn, 1) := by decide +kernel
theorem dX6_isFit_87 : decode cX6_isFit 87 = .ok (.iinc 5 1, 3) := by decide +kernel
theorem dX6_isFit_90 : decode cX6_isFit 90 = .ok (.goto (-53), 3) := by decide +kernel
theorem dX6_isFit_93 : decode cX6_isFit 93 = .ok (.iconst 1, 1) := by decide +kernel
theorem dX6_isFit_94 : decode cX6_isFit 94 = .ok (.ireturn, 1) := by decide +kernel
theorem dX6_usesThatFit_0 : decode cX6_usesThatFit 0 = .ok (.iconst 0, 1) := by decide +kernel
theorem dX6_usesThatFit_1 : decode cX6_usesThatFit 1 = .ok (.istore_n 3, 1) := by decide +kernel
theorem dX6_usesThatFit_2 : decode cX6_usesThatFit 2 = .ok (.iconst 0, 1) := by decide +kernel
theorem dX6_usesThatFit_3 : decode cX6_usesThatFit 3 = .ok (.istore 4, 2) := by decide +kernel
theorem dX6_usesThatFit_5 : decode cX6_usesThatFit 5 = .ok (.iload 4, 2) := by decide +kernel
theorem dX6_usesThatFit_7 : decode cX6_usesThatFit 7 = .ok (.aload_n 0, 1) := by decide +kernel
theorem dX6_usesThatFit_8 : decode cX6_usesThatFit 8 = .ok (.getfield 56, 3) := by decide +kernel
theorem dX6_usesThatFit_11 : decode cX6_usesThatFit 11 = .ok (.if_icmp .ge 29, 3) := by decide +kernel
theorem dX6_usesThatFit_14 : decode cX6_usesThatFit 14 = .ok (.aload_n 0, 1) := by decide +kernel
theorem dX6_usesThatFit_15 : decode cX6_usesThatFit 15 = .ok (.aload_n 1, 1) := by decide +kernel
theorem dX6_usesThatFit_16 : decode cX6_usesThatFit 16 = .ok (.iload_n 2, 1) := by decide +kernel
theorem dX6_usesThatFit_17 : decode cX6_usesThatFit 17 = .ok (.iload 4, 2) := by decide +kernel
theorem dX6_usesThatFit_19 : decode cX6_usesThatFit 19 = .ok (.invokestatic 59, 3) := by decide +kernel
theorem dX6_usesThatFit_22 : decode cX6_usesThatFit 22 = .ok (.ifCond .eq 12, 3) := by decide +kernel
theorem dX6_usesThatFit_25 : decode cX6_usesThatFit 25 = .ok (.iload_n 3, 1) := by decide +kernel
theorem dX6_usesThatFit_26 : decode cX6_usesThatFit 26 = .ok (.aload_n 0, 1) := by decide +kernel
theorem dX6_usesThatFit_27 : decode cX6_usesThatFit 27 = .ok (.iload 4, 2) := by decide +kernel
theorem dX6_usesThatFit_29 : decode cX6_usesThatFit 29 = .ok (.invokevirtual 63, 3) := by decide +kernel
theorem dX6_usesThatFit_32 : decode cX6_usesThatFit 32 = .ok (.iadd, 1) := by decide +kernel
theorem dX6_usesThatFit_33 : decode cX6_usesThatFit 33 = .ok (.istore_n 3, 1) := by decide +kernel
theorem dX6_usesThatFit_34 : decode cX6_usesThatFit 34 = .ok (.iinc 4 1, 3) := by decide +kernel
theorem dX6_usesThatFit_37 : decode cX6_usesThatFit 37 = .ok (.goto (-32), 3) := by decide +kernel
theorem dX6_usesThatFit_40 : decode cX6_usesThatFit 40 = .ok (.iload_n 3, 1) := by decide +kernel
theorem dX6_usesThatFit_41 : decode cX6_usesThatFit 41 = .ok (.ireturn, 1) := by decide +kernel
theorem dX6_likelyOf_0 : decode cX6_likelyOf 0 = .ok (.aload_n 0, 1) := by decide +kernel
theorem dX6_likelyOf_1 : decode cX6_likelyOf 1 = .ok (.aload_n 1, 1) := by decide +kernel
theorem dX6_likelyOf_2 : decode cX6_likelyOf 2 = .ok (.iload_n 2, 1) := by decide +kernel
theorem dX6_likelyOf_3 : decode cX6_likelyOf 3 = .ok (.iload_n 3, 1) := by decide +kernel
theorem dX6_likelyOf_4 : decode cX6_likelyOf 4 = .ok (.invokestatic 59, 3) := by decide +kernel
theorem dX6_likelyOf_7 : decode cX6_likelyOf 7 = .ok (.ifCond .ne 5, 3) := by decide +kernel
theorem dX6_likelyOf_10 : decode cX6_likelyOf 10 = .ok (.iconst 0, 1) := by decide +kernel
theorem dX6_likelyOf_11 : decode cX6_likelyOf 11 = .ok (.ireturn, 1) := by decide +kernel
theorem dX6_likelyOf_12 : decode cX6_likelyOf 12 = .ok (.aload_n 0, 1) := by decide +kernel
theorem dX6_likelyOf_13 : decode cX6_likelyOf 13 = .ok (.iload_n 3, 1) := by decide +kernel
theorem dX6_likelyOf_14 : decode cX6_likelyOf 14 = .ok (.invokevirtual 63, 3) := by decide +kernel
theorem dX6_likelyOf_17 : decode cX6_likelyOf 17 = .ok (.aload_n 0, 1) := by decide +kernel
theorem dX6_likelyOf_18 : decode cX6_likelyOf 18 = .ok (.aload_n 1, 1) := by decide +kernel
theorem dX6_likelyOf_19 : decode cX6_likelyOf 19 = .ok (.iload_n 2, 1) := by decide +kernel
theorem dX6_likelyOf_20 : decode cX6_likelyOf 20 = .ok (.invokestatic 66, 3) := by decide +kernel
theorem dX6_likelyOf_23 : decode cX6_likelyOf 23 = .ok (.invokestatic 70, 3) := by decide +kernel
theorem dX6_likelyOf_26 : decode cX6_likelyOf 26 = .ok (.ireturn, 1) := by decide +kernel
theorem dX6_perThousand_0 : decode cX6_perThousand 0 = .ok (.iload_n 1, 1) := by decide +kernel
theorem dX6_perThousand_1 : decode cX6_perThousand 1 = .ok (.ifCond .le 13, 3) := by decide +kernel
theorem dX6_perThousand_4 : decode cX6_perThousand 4 = .ok (.sipush 1000, 3) := by decide +kernel
theorem dX6_perThousand_7 : decode cX6_perThousand 7 = .ok (.iload_n 0, 1) := by decide +kernel
theorem dX6_perThousand_8 : decode cX6_perThousand 8 = .ok (.imul, 1) := by decide +kernel
theorem dX6_perThousand_9 : decode cX6_perThousand 9 = .ok (.iload_n 1, 1) := by decide +kernel
theorem dX6_perThousand_10 : decode cX6_perThousand 10 = .ok (.idiv, 1) := by decide +kernel
theorem dX6_perThousand_11 : decode cX6_perThousand 11 = .ok (.goto 4, 3) := by decide +kernel
theorem dX6_perThousand_14 : decode cX6_perThousand 14 = .ok (.iconst 0, 1) := by decide +kernel
theorem dX6_perThousand_15 : decode cX6_perThousand 15 = .ok (.ireturn, 1) := by decide +kernel
theorem dX6_guessOf_0 : decode cX6_guessOf 0 = .ok (.iconst (-1), 1) := by decide +kernel
theorem dX6_guessOf_1 : decode cX6_guessOf 1 = .ok (.istore_n 3, 1) := by decide +kernel
theorem dX6_guessOf_2 : decode cX6_guessOf 2 = .ok (.iconst 0, 1) := by decide +kernel
theorem dX6_guessOf_3 : decode cX6_guessOf 3 = .ok (.istore 4, 2) := by decide +kernel
theorem dX6_guessOf_5 : decode cX6_guessOf 5 = .ok (.iload 4, 2) := by decide +kernel
theorem dX6_guessOf_7 : decode cX6_guessOf 7 = .ok (.aload_n 0, 1) := by decide +kernel
theorem dX6_guessOf_8 : decode cX6_guessOf 8 = .ok (.getfield 56, 3) := by decide +kernel
theorem dX6_guessOf_11 : decode cX6_guessOf 11 = .ok (.if_icmp .ge 37, 3) := by decide +kernel
theorem dX6_guessOf_14 : decode cX6_guessOf 14 = .ok (.aload_n 0, 1) := by decide +kernel
theorem dX6_guessOf_15 : decode cX6_guessOf 15 = .ok (.iload 4, 2) := by decide +kernel
theorem dX6_guessOf_17 : decode cX6_guessOf 17 = .ok (.invokevirtual 63, 3) := by decide +kernel
theorem dX6_guessOf_20 : decode cX6_guessOf 20 = .ok (.aload_n 0, 1) := by decide +kernel
theorem dX6_guessOf_21 : decode cX6_guessOf 21 = .ok (.iload_n 3, 1) := by decide +kernel
theorem dX6_guessOf_22 : decode cX6_guessOf 22 = .ok (.invokevirtual 63, 3) := by decide +kernel
theorem dX6_guessOf_25 : decode cX6_guessOf 25 = .ok (.if_icmp .le 17, 3) := by decide +kernel
theorem dX6_guessOf_28 : decode cX6_guessOf 28 = .ok (.aload_n 0, 1) := by decide +kernel
theorem dX6_guessOf_29 : decode cX6_guessOf 29 = .ok (.aload_n 1, 1) := by decide +kernel
theorem dX6_guessOf_30 : decode cX6_guessOf 30 = .ok (.iload_n 2, 1) := by decide +kernel
theorem dX6_guessOf_31 : decode cX6_guessOf 31 = .ok (.iload 4, 2) := by decide +kernel
theorem dX6_guessOf_33 : decode cX6_guessOf 33 = .ok (.invokestatic 59, 3) := by decide +kernel
theorem dX6_guessOf_36 : decode cX6_guessOf 36 = .ok (.ifCond .eq 6, 3) := by decide +kernel
theorem dX6_guessOf_39 : decode cX6_guessOf 39 = .ok (.iload 4, 2) := by decide +kernel
theorem dX6_guessOf_41 : decode cX6_guessOf 41 = .ok (.istore_n 3, 1) := by decide +kernel
theorem dX6_guessOf_42 : decode cX6_guessOf 42 = .ok (.iinc 4 1, 3) := by decide +kernel
theorem dX6_guessOf_45 : decode cX6_guessOf 45 = .ok (.goto (-40), 3) := by decide +kernel
theorem dX6_guessOf_48 : decode cX6_guessOf 48 = .ok (.iload_n 3, 1) := by decide +kernel
theorem dX6_guessOf_49 : decode cX6_guessOf 49 = .ok (.ireturn, 1) := by decide +kernel
theorem dX6_fitsAnother_0 : decode cX6_fitsAnother 0 = .ok (.iconst 0, 1) := by decide +kernel
theorem dX6_fitsAnother_1 : decode cX6_fitsAnother 1 = .ok (.istore 4, 2) := by decide +kernel
theorem dX6_fitsAnother_3 : decode cX6_fitsAnother 3 = .ok (.iload 4, 2) := by decide +kernel
theorem dX6_fitsAnother_5 : decode cX6_fitsAnother 5 = .ok (.aload_n 0, 1) := by decide +kernel
theorem dX6_fitsAnother_6 : decode cX6_fitsAnother 6 = .ok (.getfield 56, 3) := by decide +kernel
theorem dX6_fitsAnother_9 : decode cX6_fitsAnother 9 = .ok (.if_icmp .ge 28, 3) := by decide +kernel
theorem dX6_fitsAnother_12 : decode cX6_fitsAnother 12 = .ok (.iload 4, 2) := by decide +kernel
theorem dX6_fitsAnother_14 : decode cX6_fitsAnother 14 = .ok (.iload_n 3, 1) := by decide +kernel
theorem dX6_fitsAnother_15 : decode cX6_fitsAnother 15 = .ok (.if_icmp .eq 16, 3) := by decide +kernel
theorem dX6_fitsAnother_18 : decode cX6_fitsAnother 18 = .ok (.aload_n 0, 1) := by decide +kernel
theorem dX6_fitsAnother_19 : decode cX6_fitsAnother 19 = .ok (.aload_n 1, 1) := by decide +kernel
theorem dX6_fitsAnother_20 : decode cX6_fitsAnother 20 = .ok (.iload_n 2, 1) := by decide +kernel
theorem dX6_fitsAnother_21 : decode cX6_fitsAnother 21 = .ok (.iload 4, 2) := by decide +kernel
theorem dX6_fitsAnother_23 : decode cX6_fitsAnother 23 = .ok (.invokestatic 59, 3) := by decide +kernel
theorem dX6_fitsAnother_26 : decode cX6_fitsAnother 26 = .ok (.ifCond .eq 5, 3) := by decide +kernel
theorem dX6_fitsAnother_29 : decode cX6_fitsAnother 29 = .ok (.iconst 1, 1) := by decide +kernel
theorem dX6_fitsAnother_30 : decode cX6_fitsAnother 30 = .ok (.ireturn, 1) := by decide +kernel
theorem dX6_fitsAnother_31 : decode cX6_fitsAnother 31 = .ok (.iinc 4 1, 3) := by decide +kernel
theorem dX6_fitsAnother_34 : decode cX6_fitsAnother 34 = .ok (.goto (-31), 3) := by decide +kernel
theorem dX6_fitsAnother_37 : decode cX6_fitsAnother 37 = .ok (.iconst 0, 1) := by decide +kernel
theorem dX6_fitsAnother_38 : decode cX6_fitsAnother 38 = .ok (.ireturn, 1) := by decide +kernel
theorem dX6_countedBehind_0 : decode cX6_countedBehind 0 = .ok (.aload_n 1, 1) := by decide +kernel
theorem dX6_countedBehind_1 : decode cX6_countedBehind 1 = .ok (.aload_n 0, 1) := by decide +kernel
theorem dX6_countedBehind_2 : decode cX6_countedBehind 2 = .ok (.iload_n 2, 1) := by decide +kernel
theorem dX6_countedBehind_3 : decode cX6_countedBehind 3 = .ok (.iload_n 3, 1) := by decide +kernel
theorem dX6_countedBehind_4 : decode cX6_countedBehind 4 = .ok (.invokevirtual 73, 3) := by decide +kernel
theorem dX6_countedBehind_7 : decode cX6_countedBehind 7 = .ok (.aload_n 0, 1) := by decide +kernel
theorem dX6_countedBehind_8 : decode cX6_countedBehind 8 = .ok (.iload_n 2, 1) := by decide +kernel
theorem dX6_countedBehind_9 : decode cX6_countedBehind 9 = .ok (.invokevirtual 18, 3) := by decide +kernel
theorem dX6_countedBehind_12 : decode cX6_countedBehind 12 = .ok (.istore 4, 2) := by decide +kernel
theorem dX6_countedBehind_14 : decode cX6_countedBehind 14 = .ok (.iconst 0, 1) := by decide +kernel
theorem dX6_countedBehind_15 : decode cX6_countedBehind 15 = .ok (.istore 5, 2) := by decide +kernel
theorem dX6_countedBehind_17 : decode cX6_countedBehind 17 = .ok (.iload 5, 2) := by decide +kernel
theorem dX6_countedBehind_19 : decode cX6_countedBehind 19 = .ok (.iload 4, 2) := by decide +kernel
theorem dX6_countedBehind_21 : decode cX6_countedBehind 21 = .ok (.if_icmp .gt 29, 3) := by decide +kernel
theorem dX6_countedBehind_24 : decode cX6_countedBehind 24 = .ok (.aload_n 1, 1) := by decide +kernel
theorem dX6_countedBehind_25 : decode cX6_countedBehind 25 = .ok (.iload 5, 2) := by decide +kernel
theorem dX6_countedBehind_27 : decode cX6_countedBehind 27 = .ok (.iconst 0, 1) := by decide +kernel
theorem dX6_countedBehind_28 : decode cX6_countedBehind 28 = .ok (.invokevirtual 77, 3) := by decide +kernel
theorem dX6_countedBehind_31 : decode cX6_countedBehind 31 = .ok (.aload_n 0, 1) := by decide +kernel
theorem dX6_countedBehind_32 : decode cX6_countedBehind 32 = .ok (.aload_n 1, 1) := by decide +kernel
theorem dX6_countedBehind_33 : decode cX6_countedBehind 33 = .ok (.iload_n 3, 1) := by decide +kernel
theorem dX6_countedBehind_34 : decode cX6_countedBehind 34 = .ok (.iload_n 2, 1) := by decide +kernel
theorem dX6_countedBehind_35 : decode cX6_countedBehind 35 = .ok (.invokestatic 81, 3) := by decide +kernel
theorem dX6_countedBehind_38 : decode cX6_countedBehind 38 = .ok (.ifCond .ne 6, 3) := by decide +kernel
theorem dX6_countedBehind_41 : decode cX6_countedBehind 41 = .ok (.iload 5, 2) := by decide +kernel
theorem dX6_countedBehind_43 : decode cX6_countedBehind 43 = .ok (.ireturn, 1) := by decide +kernel
theorem dX6_countedBehind_44 : decode cX6_countedBehind 44 = .ok (.iinc 5 1, 3) := by decide +kernel
theorem dX6_countedBehind_47 : decode cX6_countedBehind 47 = .ok (.goto (-30), 3) := by decide +kernel
theorem dX6_countedBehind_50 : decode cX6_countedBehind 50 = .ok (.aload_n 1, 1) := by decide +kernel
theorem dX6_countedBehind_51 : decode cX6_countedBehind 51 = .ok (.iload 4, 2) := by decide +kernel
theorem dX6_countedBehind_53 : decode cX6_countedBehind 53 = .ok (.iconst 1, 1) := by decide +kernel
theorem dX6_countedBehind_54 : decode cX6_countedBehind 54 = .ok (.invokevirtual 77, 3) := by decide +kernel
theorem dX6_countedBehind_57 : decode cX6_countedBehind 57 = .ok (.aload_n 0, 1) := by decide +kernel
theorem dX6_countedBehind_58 : decode cX6_countedBehind 58 = .ok (.aload_n 1, 1) := by decide +kernel
theorem dX6_countedBehind_59 : decode cX6_countedBehind 59 = .ok (.iload_n 3, 1) := by decide +kernel
theorem dX6_countedBehind_60 : decode cX6_countedBehind 60 = .ok (.iload_n 2, 1) := by decide +kernel
theorem dX6_countedBehind_61 : decode cX6_countedBehind 61 = .ok (.invokestatic 81, 3) := by decide +kernel
theorem dX6_countedBehind_64 : decode cX6_countedBehind 64 = .ok (.ifCond .eq 10, 3) := by decide +kernel
theorem dX6_countedBehind_67 : decode cX6_countedBehind 67 = .ok (.iload 4, 2) := by decide +kernel
theorem dX6_countedBehind_69 : decode cX6_countedBehind 69 = .ok (.iconst 2, 1) := by decide +kernel
theorem dX6_countedBehind_70 : decode cX6_countedBehind 70 = .ok (.iadd, 1) := by decide +kernel
theorem dX6_countedBehind_71 : decode cX6_countedBehind 71 = .ok (.goto 7, 3) := by decide +kernel
theorem dX6_countedBehind_74 : decode cX6_countedBehind 74 = .ok (.iload 4, 2) := by decide +kernel
theorem dX6_countedBehind_76 : decode cX6_countedBehind 76 = .ok (.iconst 1, 1) := by decide +kernel
theorem dX6_countedBehind_77 : decode cX6_countedBehind 77 = .ok (.iadd, 1) := by decide +kernel
theorem dX6_countedBehind_78 : decode cX6_countedBehind 78 = .ok (.ireturn, 1) := by decide +kernel
theorem dX6_bestEar_0 : decode cX6_bestEar 0 = .ok (.iconst (-1), 1) := by decide +kernel
theorem dX6_bestEar_1 : decode cX6_bestEar 1 = .ok (.istore_n 3, 1) := by decide +kernel
theorem dX6_bestEar_2 : decode cX6_bestEar 2 = .ok (.iconst 0, 1) := by decide +kernel
theorem dX6_bestEar_3 : decode cX6_bestEar 3 = .ok (.istore 4, 2) := by decide +kernel
theorem dX6_bestEar_5 : decode cX6_bestEar 5 = .ok (.iconst 0, 1) := by decide +kernel
theorem dX6_bestEar_6 : decode cX6_bestEar 6 = .ok (.istore 5, 2) := by decide +kernel
theorem dX6_bestEar_8 : decode cX6_bestEar 8 = .ok (.iload 5, 2) := by decide +kernel
theorem dX6_bestEar_10 : decode cX6_bestEar 10 = .ok (.aload_n 0, 1) := by decide +kernel
theorem dX6_bestEar_11 : decode cX6_bestEar 11 = .ok (.getfield 84, 3) := by decide +kernel
theorem dX6_bestEar_14 : decode cX6_bestEar 14 = .ok (.if_icmp .ge 38, 3) := by decide +kernel
theorem dX6_bestEar_17 : decode cX6_bestEar 17 = .ok (.aload_n 0, 1) := by decide +kernel
theorem dX6_bestEar_18 : decode cX6_bestEar 18 = .ok (.aload_n 1, 1) := by decide +kernel
theorem dX6_bestEar_19 : decode cX6_bestEar 19 = .ok (.iload_n 2, 1) := by decide +kernel
theorem dX6_bestEar_20 : decode cX6_bestEar 20 = .ok (.iload 5, 2) := by decide +kernel
theorem dX6_bestEar_22 : decode cX6_bestEar 22 = .ok (.invokestatic 87, 3) := by decide +kernel
theorem dX6_bestEar_25 : decode cX6_bestEar 25 = .ok (.istore 6, 2) := by decide +kernel
theorem dX6_bestEar_27 : decode cX6_bestEar 27 = .ok (.iload_n 3, 1) := by decide +kernel
theorem dX6_bestEar_28 : decode cX6_bestEar 28 = .ok (.iconst (-1), 1) := by decide +kernel
theorem dX6_bestEar_29 : decode cX6_bestEar 29 = .ok (.if_icmp .eq 10, 3) := by decide +kernel
theorem dX6_bestEar_32 : decode cX6_bestEar 32 = .ok (.iload 6, 2) := by decide +kernel
theorem dX6_bestEar_34 : decode cX6_bestEar 34 = .ok (.iload 4, 2) := by decide +kernel
theorem dX6_bestEar_36 : decode cX6_bestEar 36 = .ok (.if_icmp .ge 10, 3) := by decide +kernel
theorem dX6_bestEar_39 : decode cX6_bestEar 39 = .ok (.iload 5, 2) := by decide +kernel
theorem dX6_bestEar_41 : decode cX6_bestEar 41 = .ok (.istore_n 3, 1) := by decide +kernel
theorem dX6_bestEar_42 : decode cX6_bestEar 42 = .ok (.iload 6, 2) := by decide +kernel
theorem dX6_bestEar_44 : decode cX6_bestEar 44 = .ok (.istore 4, 2) := by decide +kernel
theorem dX6_bestEar_46 : decode cX6_bestEar 46 = .ok (.iinc 5 1, 3) := by decide +kernel
theorem dX6_bestEar_49 : decode cX6_bestEar 49 = .ok (.goto (-41), 3) := by decide +kernel
theorem dX6_bestEar_52 : decode cX6_bestEar 52 = .ok (.iload_n 3, 1) := by decide +kernel
theorem dX6_bestEar_53 : decode cX6_bestEar 53 = .ok (.ireturn, 1) := by decide +kernel
theorem dX6_meanBehind_0 : decode cX6_meanBehind 0 = .ok (.iconst 0, 1) := by decide +kernel
theorem dX6_meanBehind_1 : decode cX6_meanBehind 1 = .ok (.istore_n 3, 1) := by decide +kernel
theorem dX6_meanBehind_2 : decode cX6_meanBehind 2 = .ok (.iconst 0, 1) := by decide +kernel
theorem dX6_meanBehind_3 : decode cX6_meanBehind 3 = .ok (.istore 4, 2) := by decide +kernel
theorem dX6_meanBehind_5 : decode cX6_meanBehind 5 = .ok (.iload 4, 2) := by decide +kernel
theorem dX6_meanBehind_7 : decode cX6_meanBehind 7 = .ok (.aload_n 0, 1) := by decide +kernel
theorem dX6_meanBehind_8 : decode cX6_meanBehind 8 = .ok (.getfield 56, 3) := by decide +kernel
theorem dX6_meanBehind_11 : decode cX6_meanBehind 11 = .ok (.if_icmp .ge 27, 3) := by decide +kernel
theorem dX6_meanBehind_14 : decode cX6_meanBehind 14 = .ok (.iload_n 3, 1) := by decide +kernel
theorem dX6_meanBehind_15 : decode cX6_meanBehind 15 = .ok (.aload_n 0, 1) := by decide +kernel
theorem dX6_meanBehind_16 : decode cX6_meanBehind 16 = .ok (.iload 4, 2) := by decide +kernel
theorem dX6_meanBehind_18 : decode cX6_meanBehind 18 = .ok (.invokevirtual 63, 3) := by decide +kernel
theorem dX6_meanBehind_21 : decode cX6_meanBehind 21 = .ok (.aload_n 0, 1) := by decide +kernel
theorem dX6_meanBehind_22 : decode cX6_meanBehind 22 = .ok (.aload_n 1, 1) := by decide +kernel
theorem dX6_meanBehind_23 : decode cX6_meanBehind 23 = .ok (.iload 4, 2) := by decide +kernel
theorem dX6_meanBehind_25 : decode cX6_meanBehind 25 = .ok (.iload_n 2, 1) := by decide +kernel
theorem dX6_meanBehind_26 : decode cX6_meanBehind 26 = .ok (.invokestatic 87, 3) := by decide +kernel
theorem dX6_meanBehind_29 : decode cX6_meanBehind 29 = .ok (.imul, 1) := by decide +kernel
theorem dX6_meanBehind_30 : decode cX6_meanBehind 30 = .ok (.iadd, 1) := by decide +kernel
theorem dX6_meanBehind_31 : decode cX6_meanBehind 31 = .ok (.istore_n 3, 1) := by decide +kernel
theorem dX6_meanBehind_32 : decode cX6_meanBehind 32 = .ok (.iinc 4 1, 3) := by decide +kernel
theorem dX6_meanBehind_35 : decode cX6_meanBehind 35 = .ok (.goto (-30), 3) := by decide +kernel
theorem dX6_meanBehind_38 : decode cX6_meanBehind 38 = .ok (.iload_n 3, 1) := by decide +kernel
theorem dX6_meanBehind_39 : decode cX6_meanBehind 39 = .ok (.aload_n 0, 1) := by decide +kernel
theorem dX6_meanBehind_40 : decode cX6_meanBehind 40 = .ok (.invokevirtual 91, 3) := by decide +kernel
theorem dX6_meanBehind_43 : decode cX6_meanBehind 43 = .ok (.invokestatic 70, 3) := by decide +kernel
theorem dX6_meanBehind_46 : decode cX6_meanBehind 46 = .ok (.ireturn, 1) := by decide +kernel
theorem dX6_riskOf_0 : decode cX6_riskOf 0 = .ok (.aload_n 1, 1) := by decide +kernel
theorem dX6_riskOf_1 : decode cX6_riskOf 1 = .ok (.aload_n 0, 1) := by decide +kernel
theorem dX6_riskOf_2 : decode cX6_riskOf 2 = .ok (.iload_n 2, 1) := by decide +kernel
theorem dX6_riskOf_3 : decode cX6_riskOf 3 = .ok (.iload_n 3, 1) := by decide +kernel
theorem dX6_riskOf_4 : decode cX6_riskOf 4 = .ok (.invokevirtual 73, 3) := by decide +kernel
theorem dX6_riskOf_7 : decode cX6_riskOf 7 = .ok (.iconst 0, 1) := by decide +kernel
theorem dX6_riskOf_8 : decode cX6_riskOf 8 = .ok (.istore 4, 2) := by decide +kernel
theorem dX6_riskOf_10 : decode cX6_riskOf 10 = .ok (.iconst 0, 1) := by decide +kernel
theorem dX6_riskOf_11 : decode cX6_riskOf 11 = .ok (.istore 5, 2) := by decide +kernel
theorem dX6_riskOf_13 : decode cX6_riskOf 13 = .ok (.iload 5, 2) := by decide +kernel
theorem dX6_riskOf_15 : decode cX6_riskOf 15 = .ok (.aload_n 0, 1) := by decide +kernel
theorem dX6_riskOf_16 : decode cX6_riskOf 16 = .ok (.getfield 56, 3) := by decide +kernel
theorem dX6_riskOf_19 : decode cX6_riskOf 19 = .ok (.if_icmp .ge 44, 3) := by decide +kernel
theorem dX6_riskOf_22 : decode cX6_riskOf 22 = .ok (.iload 5, 2) := by decide +kernel
theorem dX6_riskOf_24 : decode cX6_riskOf 24 = .ok (.iload_n 2, 1) := by decide +kernel
theorem dX6_riskOf_25 : decode cX6_riskOf 25 = .ok (.if_icmp .eq 32, 3) := by decide +kernel
theorem dX6_riskOf_28 : decode cX6_riskOf 28 = .ok (.aload_n 0, 1) := by decide +kernel
theorem dX6_riskOf_29 : decode cX6_riskOf 29 = .ok (.aload_n 1, 1) := by decide +kernel
theorem dX6_riskOf_30 : decode cX6_riskOf 30 = .ok (.iload_n 3, 1) := by decide +kernel
theorem dX6_riskOf_31 : decode cX6_riskOf 31 = .ok (.iload 5, 2) := by decide +kernel
theorem dX6_riskOf_33 : decode cX6_riskOf 33 = .ok (.invokestatic 59, 3) := by decide +kernel
theorem dX6_riskOf_36 : decode cX6_riskOf 36 = .ok (.ifCond .eq 21, 3) := by decide +kernel
theorem dX6_riskOf_39 : decode cX6_riskOf 39 = .ok (.iload 4, 2) := by decide +kernel
theorem dX6_riskOf_41 : decode cX6_riskOf 41 = .ok (.aload_n 0, 1) := by decide +kernel
theorem dX6_riskOf_42 : decode cX6_riskOf 42 = .ok (.iload 5, 2) := by decide +kernel
theorem dX6_riskOf_44 : decode cX6_riskOf 44 = .ok (.invokevirtual 63, 3) := by decide +kernel
theorem dX6_riskOf_47 : decode cX6_riskOf 47 = .ok (.aload_n 0, 1) := by decide +kernel
theorem dX6_riskOf_48 : decode cX6_riskOf 48 = .ok (.iload 5, 2) := by decide +kernel
theorem dX6_riskOf_50 : decode cX6_riskOf 50 = .ok (.invokevirtual 95, 3) := by decide +kernel
theorem dX6_riskOf_53 : decode cX6_riskOf 53 = .ok (.imul, 1) := by decide +kernel
theorem dX6_riskOf_54 : decode cX6_riskOf 54 = .ok (.iadd, 1) := by decide +kernel
theorem dX6_riskOf_55 : decode cX6_riskOf 55 = .ok (.istore 4, 2) := by decide +kernel
theorem dX6_riskOf_57 : decode cX6_riskOf 57 = .ok (.iinc 5 1, 3) := by decide +kernel
theorem dX6_riskOf_60 : decode cX6_riskOf 60 = .ok (.goto (-47), 3) := by decide +kernel
theorem dX6_riskOf_63 : decode cX6_riskOf 63 = .ok (.aload_n 0, 1) := by decide +kernel
theorem dX6_riskOf_64 : decode cX6_riskOf 64 = .ok (.aload_n 1, 1) := by decide +kernel
theorem dX6_riskOf_65 : decode cX6_riskOf 65 = .ok (.iload_n 3, 1) := by decide +kernel
theorem dX6_riskOf_66 : decode cX6_riskOf 66 = .ok (.invokestatic 66, 3) := by decide +kernel
theorem dX6_riskOf_69 : decode cX6_riskOf 69 = .ok (.istore 5, 2) := by decide +kernel
theorem dX6_riskOf_71 : decode cX6_riskOf 71 = .ok (.iload 5, 2) := by decide +kernel
theorem dX6_riskOf_73 : decode cX6_riskOf 73 = .ok (.ifCond .le 11, 3) := by decide +kernel
theorem dX6_riskOf_76 : decode cX6_riskOf 76 = .ok (.iload 4, 2) := by decide +kernel
theorem dX6_riskOf_78 : decode cX6_riskOf 78 = .ok (.iload 5, 2) := by decide +kernel
theorem dX6_riskOf_80 : decode cX6_riskOf 80 = .ok (.idiv, 1) := by decide +kernel
theorem dX6_riskOf_81 : decode cX6_riskOf 81 = .ok (.goto 4, 3) := by decide +kernel
theorem dX6_riskOf_84 : decode cX6_riskOf 84 = .ok (.iconst 0, 1) := by decide +kernel
theorem dX6_riskOf_85 : decode cX6_riskOf 85 = .ok (.ireturn, 1) := by decide +kernel
theorem dX6_riskiest_0 : decode cX6_riskiest 0 = .ok (.iconst (-1), 1) := by decide +kernel
theorem dX6_riskiest_1 : decode cX6_riskiest 1 = .ok (.istore_n 3, 1) := by decide +kernel
theorem dX6_riskiest_2 : decode cX6_riskiest 2 = .ok (.iconst 0, 1) := by decide +kernel
theorem dX6_riskiest_3 : decode cX6_riskiest 3 = .ok (.istore 4, 2) := by decide +kernel
theorem dX6_riskiest_5 : decode cX6_riskiest 5 = .ok (.iconst 0, 1) := by decide +kernel
theorem dX6_riskiest_6 : decode cX6_riskiest 6 = .ok (.istore 5, 2) := by decide +kernel
theorem dX6_riskiest_8 : decode cX6_riskiest 8 = .ok (.iload 5, 2) := by decide +kernel
theorem dX6_riskiest_10 : decode cX6_riskiest 10 = .ok (.aload_n 0, 1) := by decide +kernel
theorem dX6_riskiest_11 : decode cX6_riskiest 11 = .ok (.getfield 56, 3) := by decide +kernel
theorem dX6_riskiest_14 : decode cX6_riskiest 14 = .ok (.if_icmp .ge 38, 3) := by decide +kernel
theorem dX6_riskiest_17 : decode cX6_riskiest 17 = .ok (.aload_n 0, 1) := by decide +kernel
theorem dX6_riskiest_18 : decode cX6_riskiest 18 = .ok (.aload_n 1, 1) := by decide +kernel
theorem dX6_riskiest_19 : decode cX6_riskiest 19 = .ok (.iload 5, 2) := by decide +kernel
theorem dX6_riskiest_21 : decode cX6_riskiest 21 = .ok (.iload_n 2, 1) := by decide +kernel
theorem dX6_riskiest_22 : decode cX6_riskiest 22 = .ok (.invokestatic 98, 3) := by decide +kernel
theorem dX6_riskiest_25 : decode cX6_riskiest 25 = .ok (.istore 6, 2) := by decide +kernel
theorem dX6_riskiest_27 : decode cX6_riskiest 27 = .ok (.iload_n 3, 1) := by decide +kernel
theorem dX6_riskiest_28 : decode cX6_riskiest 28 = .ok (.iconst (-1), 1) := by decide +kernel
theorem dX6_riskiest_29 : decode cX6_riskiest 29 = .ok (.if_icmp .eq 10, 3) := by decide +kernel
theorem dX6_riskiest_32 : decode cX6_riskiest 32 = .ok (.iload 6, 2) := by decide +kernel
theorem dX6_riskiest_34 : decode cX6_riskiest 34 = .ok (.iload 4, 2) := by decide +kernel
theorem dX6_riskiest_36 : decode cX6_riskiest 36 = .ok (.if_icmp .le 10, 3) := by decide +kernel
theorem dX6_riskiest_39 : decode cX6_riskiest 39 = .ok (.iload 5, 2) := by decide +kernel
theorem dX6_riskiest_41 : decode cX6_riskiest 41 = .ok (.istore_n 3, 1) := by decide +kernel
theorem dX6_riskiest_42 : decode cX6_riskiest 42 = .ok (.iload 6, 2) := by decide +kernel
theorem dX6_riskiest_44 : decode cX6_riskiest 44 = .ok (.istore 4, 2) := by decide +kernel
theorem dX6_riskiest_46 : decode cX6_riskiest 46 = .ok (.iinc 5 1, 3) := by decide +kernel
theorem dX6_riskiest_49 : decode cX6_riskiest 49 = .ok (.goto (-41), 3) := by decide +kernel
theorem dX6_riskiest_52 : decode cX6_riskiest 52 = .ok (.iload_n 3, 1) := by decide +kernel
theorem dX6_riskiest_53 : decode cX6_riskiest 53 = .ok (.ireturn, 1) := by decide +kernel
theorem dX6_nextBits_0 : decode cX6_nextBits 0 = .ok (.iconst 0, 1) := by decide +kernel
theorem dX6_nextBits_1 : decode cX6_nextBits 1 = .ok (.istore_n 3, 1) := by decide +kernel
theorem dX6_nextBits_2 : decode cX6_nextBits 2 = .ok (.iconst 0, 1) := by decide +kernel
theorem dX6_nextBits_3 : decode cX6_nextBits 3 = .ok (.istore 4, 2) := by decide +kernel
theorem dX6_nextBits_5 : decode cX6_nextBits 5 = .ok (.iload 4, 2) := by decide +kernel
theorem dX6_nextBits_7 : decode cX6_nextBits 7 = .ok (.aload_n 0, 1) := by decide +kernel
theorem dX6_nextBits_8 : decode cX6_nextBits 8 = .ok (.getfield 56, 3) := by decide +kernel
theorem dX6_nextBits_11 : decode cX6_nextBits 11 = .ok (.if_icmp .ge 36, 3) := by decide +kernel
theorem dX6_nextBits_14 : decode cX6_nextBits 14 = .ok (.aload_n 0, 1) := by decide +kernel
theorem dX6_nextBits_15 : decode cX6_nextBits 15 = .ok (.aload_n 1, 1) := by decide +kernel
theorem dX6_nextBits_16 : decode cX6_nextBits 16 = .ok (.iload_n 2, 1) := by decide +kernel
theorem dX6_nextBits_17 : decode cX6_nextBits 17 = .ok (.iload 4, 2) := by decide +kernel
theorem dX6_nextBits_19 : decode cX6_nextBits 19 = .ok (.invokestatic 59, 3) := by decide +kernel
theorem dX6_nextBits_22 : decode cX6_nextBits 22 = .ok (.ifCond .eq 19, 3) := by decide +kernel
theorem dX6_nextBits_25 : decode cX6_nextBits 25 = .ok (.iload_n 3, 1) := by decide +kernel
theorem dX6_nextBits_26 : decode cX6_nextBits 26 = .ok (.iconst 1, 1) := by decide +kernel
theorem dX6_nextBits_27 : decode cX6_nextBits 27 = .ok (.aload_n 0, 1) := by decide +kernel
theorem dX6_nextBits_28 : decode cX6_nextBits 28 = .ok (.aload_n 1, 1) := by decide +kernel
theorem dX6_nextBits_29 : decode cX6_nextBits 29 = .ok (.getfield 40, 3) := by decide +kernel
theorem dX6_nextBits_32 : decode cX6_nextBits 32 = .ok (.iload_n 2, 1) := by decide +kernel
theorem dX6_nextBits_33 : decode cX6_nextBits 33 = .ok (.iload 4, 2) := by decide +kernel
theorem dX6_nextBits_35 : decode cX6_nextBits 35 = .ok (.invokestatic 101, 3) := by decide +kernel
theorem dX6_nextBits_38 : decode cX6_nextBits 38 = .ok (.ishl, 1) := by decide +kernel
theorem dX6_nextBits_39 : decode cX6_nextBits 39 = .ok (.ior, 1) := by decide +kernel
theorem dX6_nextBits_40 : decode cX6_nextBits 40 = .ok (.istore_n 3, 1) := by decide +kernel
theorem dX6_nextBits_41 : decode cX6_nextBits 41 = .ok (.iinc 4 1, 3) := by decide +kernel
theorem dX6_nextBits_44 : decode cX6_nextBits 44 = .ok (.goto (-39), 3) := by decide +kernel
theorem dX6_nextBits_47 : decode cX6_nextBits 47 = .ok (.iload_n 3, 1) := by decide +kernel
theorem dX6_nextBits_48 : decode cX6_nextBits 48 = .ok (.ireturn, 1) := by decide +kernel
theorem dX6_nextBit_0 : decode cX6_nextBit 0 = .ok (.aload_n 0, 1) := by decide +kernel
theorem dX6_nextBit_1 : decode cX6_nextBit 1 = .ok (.iload_n 3, 1) := by decide +kernel
theorem dX6_nextBit_2 : decode cX6_nextBit 2 = .ok (.iload_n 1, 1) := by decide +kernel
theorem dX6_nextBit_3 : decode cX6_nextBit 3 = .ok (.invokevirtual 104, 3) := by decide +kernel
theorem dX6_nextBit_6 : decode cX6_nextBit 6 = .ok (.ifCond .ne 6, 3) := by decide +kernel
theorem dX6_nextBit_9 : decode cX6_nextBit 9 = .ok (.bipush 6, 2) := by decide +kernel
theorem dX6_nextBit_11 : decode cX6_nextBit 11 = .ok (.ireturn, 1) := by decide +kernel
theorem dX6_nextBit_12 : decode cX6_nextBit 12 = .ok (.aload_n 0, 1) := by decide +kernel
theorem dX6_nextBit_13 : decode cX6_nextBit 13 = .ok (.iload_n 3, 1) := by decide +kernel
theorem dX6_nextBit_14 : decode cX6_nextBit 14 = .ok (.iload_n 2, 1) := by decide +kernel
theorem dX6_nextBit_15 : decode cX6_nextBit 15 = .ok (.iload_n 1, 1) := by decide +kernel
theorem dX6_nextBit_16 : decode cX6_nextBit 16 = .ok (.invokestatic 50, 3) := by decide +kernel
theorem dX6_nextBit_19 : decode cX6_nextBit 19 = .ok (.istore 4, 2) := by decide +kernel
theorem dX6_nextBit_21 : decode cX6_nextBit 21 = .ok (.iload 4, 2) := by decide +kernel
theorem dX6_nextBit_23 : decode cX6_nextBit 23 = .ok (.bipush 9, 2) := by decide +kernel
theorem dX6_nextBit_25 : decode cX6_nextBit 25 = .ok (.if_icmp .ne 7, 3) := by decide +kernel
theorem dX6_nextBit_28 : decode cX6_nextBit 28 = .ok (.iconst 5, 1) := by decide +kernel
theorem dX6_nextBit_29 : decode cX6_nextBit 29 = .ok (.goto 5, 3) := by decide +kernel
theorem dX6_nextBit_32 : decode cX6_nextBit 32 = .ok (.iload 4, 2) := by decide +kernel
theorem dX6_nextBit_34 : decode cX6_nextBit 34 = .ok (.ireturn, 1) := by decide +kernel
theorem dX6_areMixed_0 : decode cX6_areMixed 0 = .ok (.aload_n 1, 1) := by decide +kernel
theorem dX6_areMixed_1 : decode cX6_areMixed 1 = .ok (.aload_n 0, 1) := by decide +kernel
theorem dX6_areMixed_2 : decode cX6_areMixed 2 = .ok (.iload_n 3, 1) := by decide +kernel
theorem dX6_areMixed_3 : decode cX6_areMixed 3 = .ok (.iload_n 2, 1) := by decide +kernel
theorem dX6_areMixed_4 : decode cX6_areMixed 4 = .ok (.invokevirtual 73, 3) := by decide +kernel
theorem dX6_areMixed_7 : decode cX6_areMixed 7 = .ok (.aload_n 0, 1) := by decide +kernel
theorem dX6_areMixed_8 : decode cX6_areMixed 8 = .ok (.aload_n 1, 1) := by decide +kernel
theorem dX6_areMixed_9 : decode cX6_areMixed 9 = .ok (.iload_n 2, 1) := by decide +kernel
theorem dX6_areMixed_10 : decode cX6_areMixed 10 = .ok (.iload 4, 2) := by decide +kernel
theorem dX6_areMixed_12 : decode cX6_areMixed 12 = .ok (.invokestatic 59, 3) := by decide +kernel
theorem dX6_areMixed_15 : decode cX6_areMixed 15 = .ok (.ireturn, 1) := by decide +kernel
theorem dX6_countMixed_0 : decode cX6_countMixed 0 = .ok (.iconst 0, 1) := by decide +kernel
theorem dX6_countMixed_1 : decode cX6_countMixed 1 = .ok (.istore_n 3, 1) := by decide +kernel
theorem dX6_countMixed_2 : decode cX6_countMixed 2 = .ok (.iconst 0, 1) := by decide +kernel
theorem dX6_countMixed_3 : decode cX6_countMixed 3 = .ok (.istore 4, 2) := by decide +kernel
theorem dX6_countMixed_5 : decode cX6_countMixed 5 = .ok (.iload 4, 2) := by decide +kernel
theorem dX6_countMixed_7 : decode cX6_countMixed 7 = .ok (.aload_n 0, 1) := by decide +kernel
theorem dX6_countMixed_8 : decode cX6_countMixed 8 = .ok (.getfield 56, 3) := by decide +kernel
theorem dX6_countMixed_11 : decode cX6_countMixed 11 = .ok (.if_icmp .ge 46, 3) := by decide +kernel
theorem dX6_countMixed_14 : decode cX6_countMixed 14 = .ok (.iload 4, 2) := by decide +kernel
theorem dX6_countMixed_16 : decode cX6_countMixed 16 = .ok (.iconst 1, 1) := by decide +kernel
theorem dX6_countMixed_17 : decode cX6_countMixed 17 = .ok (.iadd, 1) := by decide +kernel
theorem dX6_countMixed_18 : decode cX6_countMixed 18 = .ok (.istore 5, 2) := by decide +kernel
theorem dX6_countMixed_20 : decode cX6_countMixed 20 = .ok (.iload 5, 2) := by decide +kernel
theorem dX6_countMixed_22 : decode cX6_countMixed 22 = .ok (.aload_n 0, 1) := by decide +kernel
theorem dX6_countMixed_23 : decode cX6_countMixed 23 = .ok (.getfield 56, 3) := by decide +kernel
theorem dX6_countMixed_26 : decode cX6_countMixed 26 = .ok (.if_icmp .ge 25, 3) := by decide +kernel
theorem dX6_countMixed_29 : decode cX6_countMixed 29 = .ok (.aload_n 0, 1) := by decide +kernel
theorem dX6_countMixed_30 : decode cX6_countMixed 30 = .ok (.aload_n 1, 1) := by decide +kernel
theorem dX6_countMixed_31 : decode cX6_countMixed 31 = .ok (.iload_n 2, 1) := by decide +kernel
theorem dX6_countMixed_32 : decode cX6_countMixed 32 = .ok (.iload 4, 2) := by decide +kernel
theorem dX6_countMixed_34 : decode cX6_countMixed 34 = .ok (.iload 5, 2) := by decide +kernel
theorem dX6_countMixed_36 : decode cX6_countMixed 36 = .ok (.invokestatic 108, 3) := by decide +kernel
theorem dX6_countMixed_39 : decode cX6_countMixed 39 = .ok (.ifCond .eq 6, 3) := by decide +kernel
theorem dX6_countMixed_42 : decode cX6_countMixed 42 = .ok (.iinc 3 1, 3) := by decide +kernel
theorem dX6_countMixed_45 : decode cX6_countMixed 45 = .ok (.iinc 5 1, 3) := by decide +kernel
theorem dX6_countMixed_48 : decode cX6_countMixed 48 = .ok (.goto (-28), 3) := by decide +kernel
theorem dX6_countMixed_51 : decode cX6_countMixed 51 = .ok (.iinc 4 1, 3) := by decide +kernel
theorem dX6_countMixed_54 : decode cX6_countMixed 54 = .ok (.goto (-49), 3) := by decide +kernel
theorem dX6_countMixed_57 : decode cX6_countMixed 57 = .ok (.iload_n 3, 1) := by decide +kernel
theorem dX6_countMixed_58 : decode cX6_countMixed 58 = .ok (.ireturn, 1) := by decide +kernel
theorem dX6_firstMixed_0 : decode cX6_firstMixed 0 = .ok (.iconst 0, 1) := by decide +kernel
theorem dX6_firstMixed_1 : decode cX6_firstMixed 1 = .ok (.istore_n 3, 1) := by decide +kernel
theorem dX6_firstMixed_2 : decode cX6_firstMixed 2 = .ok (.iload_n 3, 1) := by decide +kernel
theorem dX6_firstMixed_3 : decode cX6_firstMixed 3 = .ok (.aload_n 0, 1) := by decide +kernel
theorem dX6_firstMixed_4 : decode cX6_firstMixed 4 = .ok (.getfield 56, 3) := by decide +kernel
theorem dX6_firstMixed_7 : decode cX6_firstMixed 7 = .ok (.if_icmp .ge 49, 3) := by decide +kernel
theorem dX6_firstMixed_10 : decode cX6_firstMixed 10 = .ok (.iload_n 3, 1) := by decide +kernel
theorem dX6_firstMixed_11 : decode cX6_firstMixed 11 = .ok (.iconst 1, 1) := by decide +kernel
theorem dX6_firstMixed_12 : decode cX6_firstMixed 12 = .ok (.iadd, 1) := by decide +kernel
theorem dX6_firstMixed_13 : decode cX6_firstMixed 13 = .ok (.istore 4, 2) := by decide +kernel
theorem dX6_firstMixed_15 : decode cX6_firstMixed 15 = .ok (.iload 4, 2) := by decide +kernel
theorem dX6_firstMixed_17 : decode cX6_firstMixed 17 = .ok (.aload_n 0, 1) := by decide +kernel
theorem dX6_firstMixed_18 : decode cX6_firstMixed 18 = .ok (.getfield 56, 3) := by decide +kernel
theorem dX6_firstMixed_21 : decode cX6_firstMixed 21 = .ok (.if_icmp .ge 29, 3) := by decide +kernel
theorem dX6_firstMixed_24 : decode cX6_firstMixed 24 = .ok (.aload_n 0, 1) := by decide +kernel
theorem dX6_firstMixed_25 : decode cX6_firstMixed 25 = .ok (.aload_n 1, 1) := by decide +kernel
theorem dX6_firstMixed_26 : decode cX6_firstMixed 26 = .ok (.iload_n 2, 1) := by decide +kernel
theorem dX6_firstMixed_27 : decode cX6_firstMixed 27 = .ok (.iload_n 3, 1) := by decide +kernel
theorem dX6_firstMixed_28 : decode cX6_firstMixed 28 = .ok (.iload 4, 2) := by decide +kernel
theorem dX6_firstMixed_30 : decode cX6_firstMixed 30 = .ok (.invokestatic 108, 3) := by decide +kernel
theorem dX6_firstMixed_33 : decode cX6_firstMixed 33 = .ok (.ifCond .eq 11, 3) := by decide +kernel
theorem dX6_firstMixed_36 : decode cX6_firstMixed 36 = .ok (.bipush 100, 2) := by decide +kernel
theorem dX6_firstMixed_38 : decode cX6_firstMixed 38 = .ok (.iload_n 3, 1) := by decide +kernel
theorem dX6_firstMixed_39 : decode cX6_firstMixed 39 = .ok (.imul, 1) := by decide +kernel
theorem dX6_firstMixed_40 : decode cX6_firstMixed 40 = .ok (.iload 4, 2) := by decide +kernel
theorem dX6_firstMixed_42 : decode cX6_firstMixed 42 = .ok (.iadd, 1) := by decide +kernel
theorem dX6_firstMixed_43 : decode cX6_firstMixed 43 = .ok (.ireturn, 1) := by decide +kernel
theorem dX6_firstMixed_44 : decode cX6_firstMixed 44 = .ok (.iinc 4 1, 3) := by decide +kernel
theorem dX6_firstMixed_47 : decode cX6_firstMixed 47 = .ok (.goto (-32), 3) := by decide +kernel
theorem dX6_firstMixed_50 : decode cX6_firstMixed 50 = .ok (.iinc 3 1, 3) := by decide +kernel
theorem dX6_firstMixed_53 : decode cX6_firstMixed 53 = .ok (.goto (-51), 3) := by decide +kernel
theorem dX6_firstMixed_56 : decode cX6_firstMixed 56 = .ok (.iconst (-1), 1) := by decide +kernel
theorem dX6_firstMixed_57 : decode cX6_firstMixed 57 = .ok (.ireturn, 1) := by decide +kernel
theorem dX6_differences_0 : decode cX6_differences 0 = .ok (.aload_n 0, 1) := by decide +kernel
theorem dX6_differences_1 : decode cX6_differences 1 = .ok (.iload_n 2, 1) := by decide +kernel
theorem dX6_differences_2 : decode cX6_differences 2 = .ok (.invokevirtual 18, 3) := by decide +kernel
theorem dX6_differences_5 : decode cX6_differences 5 = .ok (.istore_n 3, 1) := by decide +kernel
theorem dX6_differences_6 : decode cX6_differences 6 = .ok (.iload_n 3, 1) := by decide +kernel
theorem dX6_differences_7 : decode cX6_differences 7 = .ok (.aload_n 1, 1) := by decide +kernel
theorem dX6_differences_8 : decode cX6_differences 8 = .ok (.getfield 40, 3) := by decide +kernel
theorem dX6_differences_11 : decode cX6_differences 11 = .ok (.isub, 1) := by decide +kernel
theorem dX6_differences_12 : decode cX6_differences 12 = .ok (.invokestatic 112, 3) := by decide +kernel
theorem dX6_differences_15 : decode cX6_differences 15 = .ok (.istore 4, 2) := by decide +kernel
theorem dX6_differences_17 : decode cX6_differences 17 = .ok (.iconst 0, 1) := by decide +kernel
theorem dX6_differences_18 : decode cX6_differences 18 = .ok (.istore 5, 2) := by decide +kernel
theorem dX6_differences_20 : decode cX6_differences 20 = .ok (.iload 5, 2) := by decide +kernel
theorem dX6_differences_22 : decode cX6_differences 22 = .ok (.iload_n 3, 1) := by decide +kernel
theorem dX6_differences_23 : decode cX6_differences 23 = .ok (.if_icmp .ge 48, 3) := by decide +kernel
theorem dX6_differences_26 : decode cX6_differences 26 = .ok (.iload 5, 2) := by decide +kernel
theorem dX6_differences_28 : decode cX6_differences 28 = .ok (.aload_n 1, 1) := by decide +kernel
theorem dX6_differences_29 : decode cX6_differences 29 = .ok (.getfield 40, 3) := by decide +kernel
theorem dX6_differences_32 : decode cX6_differences 32 = .ok (.if_icmp .ge 39, 3) := by decide +kernel
theorem dX6_differences_35 : decode cX6_differences 35 = .ok (.aload_n 1, 1) := by decide +kernel
theorem dX6_differences_36 : decode cX6_differences 36 = .ok (.iload 5, 2) := by decide +kernel
theorem dX6_differences_38 : decode cX6_differences 38 = .ok (.invokevirtual 48, 3) := by decide +kernel
theorem dX6_differences_41 : decode cX6_differences 41 = .ok (.istore 6, 2) := by decide +kernel
theorem dX6_differences_43 : decode cX6_differences 43 = .ok (.iload 6, 2) := by decide +kernel
theorem dX6_differences_45 : decode cX6_differences 45 = .ok (.bipush 9, 2) := by decide +kernel
theorem dX6_differences_47 : decode cX6_differences 47 = .ok (.if_icmp .eq 18, 3) := by decide +kernel
theorem dX6_differences_50 : decode cX6_differences 50 = .ok (.iload 6, 2) := by decide +kernel
theorem dX6_differences_52 : decode cX6_differences 52 = .ok (.aload_n 0, 1) := by decide +kernel
theorem dX6_differences_53 : decode cX6_differences 53 = .ok (.iload_n 2, 1) := by decide +kernel
theorem dX6_differences_54 : decode cX6_differences 54 = .ok (.iload 5, 2) := by decide +kernel
theorem dX6_differences_56 : decode cX6_differences 56 = .ok (.invokevirtual 33, 3) := by decide +kernel
theorem dX6_differences_59 : decode cX6_differences 59 = .ok (.if_icmp .eq 6, 3) := by decide +kernel
theorem dX6_differences_62 : decode cX6_differences 62 = .ok (.iinc 4 1, 3) := by decide +kernel
theorem dX6_differences_65 : decode cX6_differences 65 = .ok (.iinc 5 1, 3) := by decide +kernel
theorem dX6_differences_68 : decode cX6_differences 68 = .ok (.goto (-48), 3) := by decide +kernel
theorem dX6_differences_71 : decode cX6_differences 71 = .ok (.iload 4, 2) := by decide +kernel
theorem dX6_differences_73 : decode cX6_differences 73 = .ok (.ireturn, 1) := by decide +kernel
theorem dX6_nearestCall_0 : decode cX6_nearestCall 0 = .ok (.iconst (-1), 1) := by decide +kernel
theorem dX6_nearestCall_1 : decode cX6_nearestCall 1 = .ok (.istore_n 2, 1) := by decide +kernel
theorem dX6_nearestCall_2 : decode cX6_nearestCall 2 = .ok (.iconst 0, 1) := by decide +kernel
theorem dX6_nearestCall_3 : decode cX6_nearestCall 3 = .ok (.istore_n 3, 1) := by decide +kernel
theorem dX6_nearestCall_4 : decode cX6_nearestCall 4 = .ok (.iconst 0, 1) := by decide +kernel
theorem dX6_nearestCall_5 : decode cX6_nearestCall 5 = .ok (.istore 4, 2) := by decide +kernel
theorem dX6_nearestCall_7 : decode cX6_nearestCall 7 = .ok (.iload 4, 2) := by decide +kernel
theorem dX6_nearestCall_9 : decode cX6_nearestCall 9 = .ok (.aload_n 0, 1) := by decide +kernel
theorem dX6_nearestCall_10 : decode cX6_nearestCall 10 = .ok (.getfield 56, 3) := by decide +kernel
theorem dX6_nearestCall_13 : decode cX6_nearestCall 13 = .ok (.if_icmp .ge 35, 3) := by decide +kernel
theorem dX6_nearestCall_16 : decode cX6_nearestCall 16 = .ok (.aload_n 0, 1) := by decide +kernel
theorem dX6_nearestCall_17 : decode cX6_nearestCall 17 = .ok (.aload_n 1, 1) := by decide +kernel
theorem dX6_nearestCall_18 : decode cX6_nearestCall 18 = .ok (.iload 4, 2) := by decide +kernel
theorem dX6_nearestCall_20 : decode cX6_nearestCall 20 = .ok (.invokestatic 117, 3) := by decide +kernel
theorem dX6_nearestCall_23 : decode cX6_nearestCall 23 = .ok (.istore 5, 2) := by decide +kernel
theorem dX6_nearestCall_25 : decode cX6_nearestCall 25 = .ok (.iload_n 2, 1) := by decide +kernel
theorem dX6_nearestCall_26 : decode cX6_nearestCall 26 = .ok (.iconst (-1), 1) := by decide +kernel
theorem dX6_nearestCall_27 : decode cX6_nearestCall 27 = .ok (.if_icmp .eq 9, 3) := by decide +kernel
theorem dX6_nearestCall_30 : decode cX6_nearestCall 30 = .ok (.iload 5, 2) := by decide +kernel
theorem dX6_nearestCall_32 : decode cX6_nearestCall 32 = .ok (.iload_n 3, 1) := by decide +kernel
theorem dX6_nearestCall_33 : decode cX6_nearestCall 33 = .ok (.if_icmp .ge 9, 3) := by decide +kernel
theorem dX6_nearestCall_36 : decode cX6_nearestCall 36 = .ok (.iload 4, 2) := by decide +kernel
theorem dX6_nearestCall_38 : decode cX6_nearestCall 38 = .ok (.istore_n 2, 1) := by decide +kernel
theorem dX6_nearestCall_39 : decode cX6_nearestCall 39 = .ok (.iload 5, 2) := by decide +kernel
theorem dX6_nearestCall_41 : decode cX6_nearestCall 41 = .ok (.istore_n 3, 1) := by decide +kernel
theorem dX6_nearestCall_42 : decode cX6_nearestCall 42 = .ok (.iinc 4 1, 3) := by decide +kernel
theorem dX6_nearestCall_45 : decode cX6_nearestCall 45 = .ok (.goto (-38), 3) := by decide +kernel
theorem dX6_nearestCall_48 : decode cX6_nearestCall 48 = .ok (.iload_n 2, 1) := by decide +kernel
theorem dX6_nearestCall_49 : decode cX6_nearestCall 49 = .ok (.ireturn, 1) := by decide +kernel
theorem dX6_whenSure_0 : decode cX6_whenSure 0 = .ok (.aload_n 1, 1) := by decide +kernel
theorem dX6_whenSure_1 : decode cX6_whenSure 1 = .ok (.getfield 40, 3) := by decide +kernel
theorem dX6_whenSure_4 : decode cX6_whenSure 4 = .ok (.istore_n 3, 1) := by decide +kernel
theorem dX6_whenSure_5 : decode cX6_whenSure 5 = .ok (.iconst 0, 1) := by decide +kernel
theorem dX6_whenSure_6 : decode cX6_whenSure 6 = .ok (.istore 4, 2) := by decide +kernel
theorem dX6_whenSure_8 : decode cX6_whenSure 8 = .ok (.iload 4, 2) := by decide +kernel
theorem dX6_whenSure_10 : decode cX6_whenSure 10 = .ok (.iload_n 3, 1) := by decide +kernel
theorem dX6_whenSure_11 : decode cX6_whenSure 11 = .ok (.if_icmp .gt 48, 3) := by decide +kernel
theorem dX6_whenSure_14 : decode cX6_whenSure 14 = .ok (.aload_n 1, 1) := by decide +kernel
theorem dX6_whenSure_15 : decode cX6_whenSure 15 = .ok (.iload 4, 2) := by decide +kernel
theorem dX6_whenSure_17 : decode cX6_whenSure 17 = .ok (.iconst 0, 1) := by decide +kernel
theorem dX6_whenSure_18 : decode cX6_whenSure 18 = .ok (.invokevirtual 77, 3) := by decide +kernel
theorem dX6_whenSure_21 : decode cX6_whenSure 21 = .ok (.aload_n 0, 1) := by decide +kernel
theorem dX6_whenSure_22 : decode cX6_whenSure 22 = .ok (.aload_n 1, 1) := by decide +kernel
theorem dX6_whenSure_23 : decode cX6_whenSure 23 = .ok (.iload_n 2, 1) := by decide +kernel
theorem dX6_whenSure_24 : decode cX6_whenSure 24 = .ok (.invokestatic 120, 3) := by decide +kernel
theorem dX6_whenSure_27 : decode cX6_whenSure 27 = .ok (.istore 5, 2) := by decide +kernel
theorem dX6_whenSure_29 : decode cX6_whenSure 29 = .ok (.iload 5, 2) := by decide +kernel
theorem dX6_whenSure_31 : decode cX6_whenSure 31 = .ok (.iconst (-1), 1) := by decide +kernel
theorem dX6_whenSure_32 : decode cX6_whenSure 32 = .ok (.if_icmp .eq 21, 3) := by decide +kernel
theorem dX6_whenSure_35 : decode cX6_whenSure 35 = .ok (.aload_n 0, 1) := by decide +kernel
theorem dX6_whenSure_36 : decode cX6_whenSure 36 = .ok (.aload_n 1, 1) := by decide +kernel
theorem dX6_whenSure_37 : decode cX6_whenSure 37 = .ok (.iload_n 2, 1) := by decide +kernel
theorem dX6_whenSure_38 : decode cX6_whenSure 38 = .ok (.iload 5, 2) := by decide +kernel
theorem dX6_whenSure_40 : decode cX6_whenSure 40 = .ok (.invokestatic 123, 3) := by decide +kernel
theorem dX6_whenSure_43 : decode cX6_whenSure 43 = .ok (.aload_n 0, 1) := by decide +kernel
theorem dX6_whenSure_44 : decode cX6_whenSure 44 = .ok (.getfield 126, 3) := by decide +kernel
theorem dX6_whenSure_47 : decode cX6_whenSure 47 = .ok (.if_icmp .lt 6, 3) := by decide +kernel
theorem dX6_whenSure_50 : decode cX6_whenSure 50 = .ok (.iload 4, 2) := by decide +kernel
theorem dX6_whenSure_52 : decode cX6_whenSure 52 = .ok (.ireturn, 1) := by decide +kernel
theorem dX6_whenSure_53 : decode cX6_whenSure 53 = .ok (.iinc 4 1, 3) := by decide +kernel
theorem dX6_whenSure_56 : decode cX6_whenSure 56 = .ok (.goto (-48), 3) := by decide +kernel
theorem dX6_whenSure_59 : decode cX6_whenSure 59 = .ok (.iconst (-1), 1) := by decide +kernel
theorem dX6_whenSure_60 : decode cX6_whenSure 60 = .ok (.ireturn, 1) := by decide +kernel
theorem dX7_init_0 : decode cX7_init 0 = .ok (.aload_n 0, 1) := by decide +kernel
theorem dX7_init_1 : decode cX7_init 1 = .ok (.invokespecial 3, 3) := by decide +kernel
theorem dX7_init_4 : decode cX7_init 4 = .ok (.aload_n 0, 1) := by decide +kernel
theorem dX7_init_5 : decode cX7_init 5 = .ok (.bipush 40, 2) := by decide +kernel
theorem dX7_init_7 : decode cX7_init 7 = .ok (.newarray .long, 2) := by decide +kernel
theorem dX7_init_9 : decode cX7_init 9 = .ok (.putfield 11, 3) := by decide +kernel
theorem dX7_init_12 : decode cX7_init 12 = .ok (.aload_n 0, 1) := by decide +kernel
theorem dX7_init_13 : decode cX7_init 13 = .ok (.iconst (-1), 1) := by decide +kernel
theorem dX7_init_14 : decode cX7_init 14 = .ok (.putfield 15, 3) := by decide +kernel
theorem dX7_init_17 : decode cX7_init 17 = .ok (.aload_n 0, 1) := by decide +kernel
theorem dX7_init_18 : decode cX7_init 18 = .ok (.iconst 0, 1) := by decide +kernel
theorem dX7_init_19 : decode cX7_init 19 = .ok (.putfield 19, 3) := by decide +kernel
theorem dX7_init_22 : decode cX7_init 22 = .ok (.return_, 1) := by decide +kernel
theorem dX7_hasRow_0 : decode cX7_hasRow 0 = .ok (.aload_n 0, 1) := by decide +kernel
theorem dX7_hasRow_1 : decode cX7_hasRow 1 = .ok (.getfield 15, 3) := by decide +kernel
theorem dX7_hasRow_4 : decode cX7_hasRow 4 = .ok (.ifCond .lt 15, 3) := by decide +kernel
theorem dX7_hasRow_7 : decode cX7_hasRow 7 = .ok (.aload_n 0, 1) := by decide +kernel
theorem dX7_hasRow_8 : decode cX7_hasRow 8 = .ok (.getfield 15, 3) := by decide +kernel
theorem dX7_hasRow_11 : decode cX7_hasRow 11 = .ok (.iconst 5, 1) := by decide +kernel
theorem dX7_hasRow_12 : decode cX7_hasRow 12 = .ok (.if_icmp .ge 7, 3) := by decide +kernel
theorem dX7_hasRow_15 : decode cX7_hasRow 15 = .ok (.iconst 1, 1) := by decide +kernel
theorem dX7_hasRow_16 : decode cX7_hasRow 16 = .ok (.goto 4, 3) := by decide +kernel
theorem dX7_hasRow_19 : decode cX7_hasRow 19 = .ok (.iconst 0, 1) := by decide +kernel
theorem dX7_hasRow_20 : decode cX7_hasRow 20 = .ok (.ireturn, 1) := by decide +kernel
theorem dX7_hasEar_0 : decode cX7_hasEar 0 = .ok (.aload_n 0, 1) := by decide +kernel
theorem dX7_hasEar_1 : decode cX7_hasEar 1 = .ok (.getfield 15, 3) := by decide +kernel
theorem dX7_hasEar_4 : decode cX7_hasEar 4 = .ok (.bipush 10, 2) := by decide +kernel
theorem dX7_hasEar_6 : decode cX7_hasEar 6 = .ok (.if_icmp .lt 7, 3) := by decide +kernel
theorem dX7_hasEar_9 : decode cX7_hasEar 9 = .ok (.iconst 1, 1) := by decide +kernel
theorem dX7_hasEar_10 : decode cX7_hasEar 10 = .ok (.goto 4, 3) := by decide +kernel
theorem dX7_hasEar_13 : decode cX7_hasEar 13 = .ok (.iconst 0, 1) := by decide +kernel
theorem dX7_hasEar_14 : decode cX7_hasEar 14 = .ok (.ireturn, 1) := by decide +kernel
theorem dX7_whyNoRow_0 : decode cX7_whyNoRow 0 = .ok (.aload_n 0, 1) := by decide +kernel
theorem dX7_whyNoRow_1 : decode cX7_whyNoRow 1 = .ok (.invokevirtual 22, 3) := by decide +kernel
theorem dX7_whyNoRow_4 : decode cX7_whyNoRow 4 = .ok (.ifCond .eq 5, 3) := by decide +kernel
theorem dX7_whyNoRow_7 : decode cX7_whyNoRow 7 = .ok (.iconst 0, 1) := by decide +kernel
theorem dX7_whyNoRow_8 : decode cX7_whyNoRow 8 = .ok (.ireturn, 1) := by decide +kernel
theorem dX7_whyNoRow_9 : decode cX7_whyNoRow 9 = .ok (.aload_n 0, 1) := by decide +kernel
theorem dX7_whyNoRow_10 : decode cX7_whyNoRow 10 = .ok (.invokevirtual 26, 3) := by decide +kernel
theorem dX7_whyNoRow_13 : decode cX7_whyNoRow 13 = .ok (.ifCond .eq 8, 3) := by decide +kernel
theorem dX7_whyNoRow_16 : decode cX7_whyNoRow 16 = .ok (.bipush (-3), 2) := by decide +kernel
theorem dX7_whyNoRow_18 : decode cX7_whyNoRow 18 = .ok (.goto 5, 3) := by decide +kernel
theorem dX7_whyNoRow_21 : decode cX7_whyNoRow 21 = .ok (.bipush (-4), 2) := by decide +kernel
theorem dX7_whyNoRow_23 : decode cX7_whyNoRow 23 = .ok (.ireturn, 1) := by decide +kernel
theorem dX7_earNumber_0 : decode cX7_earNumber 0 = .ok (.aload_n 0, 1) := by decide +kernel
theorem dX7_earNumber_1 : decode cX7_earNumber 1 = .ok (.invokevirtual 26, 3) := by decide +kernel
theorem dX7_earNumber_4 : decode cX7_earNumber 4 = .ok (.ifCond .eq 13, 3) := by decide +kernel
theorem dX7_earNumber_7 : decode cX7_earNumber 7 = .ok (.aload_n 0, 1) := by decide +kernel
theorem dX7_earNumber_8 : decode cX7_earNumber 8 = .ok (.getfield 15, 3) := by decide +kernel
theorem dX7_earNumber_11 : decode cX7_earNumber 11 = .ok (.bipush 10, 2) := by decide +kernel
theorem dX7_earNumber_13 : decode cX7_earNumber 13 = .ok (.isub, 1) := by decide +kernel
theorem dX7_earNumber_14 : decode cX7_earNumber 14 = .ok (.goto 4, 3) := by decide +kernel
theorem dX7_earNumber_17 : decode cX7_earNumber 17 = .ok (.iconst (-1), 1) := by decide +kernel
theorem dX7_earNumber_18 : decode cX7_earNumber 18 = .ok (.ireturn, 1) := by decide +kernel
theorem dX7_clear_0 : decode cX7_clear 0 = .ok (.aload_n 0, 1) := by decide +kernel
theorem dX7_clear_1 : decode cX7_clear 1 = .ok (.iconst (-1), 1) := by decide +kernel
theorem dX7_clear_2 : decode cX7_clear 2 = .ok (.putfield 15, 3) := by decide +kernel
theorem dX7_clear_5 : decode cX7_clear 5 = .ok (.aload_n 0, 1) := by decide +kernel
theorem dX7_clear_6 : decode cX7_clear 6 = .ok (.iconst 0, 1) := by decide +kernel
theorem dX7_clear_7 : decode cX7_clear 7 = .ok (.putfield 19, 3) := by decide +kernel
theorem dX7_clear_10 : decode cX7_clear 10 = .ok (.return_, 1) := by decide +kernel
theorem dX7_putEar_0 : decode cX7_putEar 0 = .ok (.aload_n 0, 1) := by decide +kernel
theorem dX7_putEar_1 : decode cX7_putEar 1 = .ok (.bipush 10, 2) := by decide +kernel
theorem dX7_putEar_3 : decode cX7_putEar 3 = .ok (.iload_n 1, 1) := by decide +kernel
theorem dX7_putEar_4 : decode cX7_putEar 4 = .ok (.iadd, 1) := by decide +kernel
theorem dX7_putEar_5 : decode cX7_putEar 5 = .ok (.putfield 15, 3) := by decide +kernel
theorem dX7_putEar_8 : decode cX7_putEar 8 = .ok (.aload_n 0, 1) := by decide +kernel
theorem dX7_putEar_9 : decode cX7_putEar 9 = .ok (.iconst 0, 1) := by decide +kernel
theorem dX7_putEar_10 : decode cX7_putEar 10 = .ok (.putfield 19, 3) := by decide +kernel
theorem dX7_putEar_13 : decode cX7_putEar 13 = .ok (.return_, 1) := by decide +kernel
theorem dX7_putRow_0 : decode cX7_putRow 0 = .ok (.aload_n 0, 1) := by decide +kernel
theorem dX7_putRow_1 : decode cX7_putRow 1 = .ok (.iload_n 1, 1) := by decide +kernel
theorem dX7_putRow_2 : decode cX7_putRow 2 = .ok (.putfield 15, 3) := by decide +kernel
theorem dX7_putRow_5 : decode cX7_putRow 5 = .ok (.aload_n 0, 1) := by decide +kernel
theorem dX7_putRow_6 : decode cX7_putRow 6 = .ok (.iconst 0, 1) := by decide +kernel
theorem dX7_putRow_7 : decode cX7_putRow 7 = .ok (.iload_n 2, 1) := by decide +kernel
theorem dX7_putRow_8 : decode cX7_putRow 8 = .ok (.bipush 40, 2) := by decide +kernel
theorem dX7_putRow_10 : decode cX7_putRow 10 = .ok (.invokestatic 29, 3) := by decide +kernel
theorem dX7_putRow_13 : decode cX7_putRow 13 = .ok (.invokestatic 35, 3) := by decide +kernel
theorem dX7_putRow_16 : decode cX7_putRow 16 = .ok (.putfield 19, 3) := by decide +kernel
theorem dX7_putRow_19 : decode cX7_putRow 19 = .ok (.aload_n 0, 1) := by decide +kernel
theorem dX7_putRow_20 : decode cX7_putRow 20 = .ok (.getfield 11, 3) := by decide +kernel
theorem dX7_putRow_23 : decode cX7_putRow 23 = .ok (.lconst 0, 1) := by decide +kernel
theorem dX7_putRow_24 : decode cX7_putRow 24 = .ok (.invokestatic 38, 3) := by decide +kernel
theorem dX7_putRow_27 : decode cX7_putRow 27 = .ok (.return_, 1) := by decide +kernel
theorem dX7_putHearing_0 : decode cX7_putHearing 0 = .ok (.aload_n 0, 1) := by decide +kernel
theorem dX7_putHearing_1 : decode cX7_putHearing 1 = .ok (.iconst 0, 1) := by decide +kernel
theorem dX7_putHearing_2 : decode cX7_putHearing 2 = .ok (.aload_n 1, 1) := by decide +kernel
theorem dX7_putHearing_3 : decode cX7_putHearing 3 = .ok (.getfield 44, 3) := by decide +kernel
theorem dX7_putHearing_6 : decode cX7_putHearing 6 = .ok (.invokevirtual 47, 3) := by decide +kernel
theorem dX7_putHearing_9 : decode cX7_putHearing 9 = .ok (.iconst 0, 1) := by decide +kernel
theorem dX7_putHearing_10 : decode cX7_putHearing 10 = .ok (.istore_n 2, 1) := by decide +kernel
theorem dX7_putHearing_11 : decode cX7_putHearing 11 = .ok (.iload_n 2, 1) := by decide +kernel
theorem dX7_putHearing_12 : decode cX7_putHearing 12 = .ok (.aload_n 1, 1) := by decide +kernel
theorem dX7_putHearing_13 : decode cX7_putHearing 13 = .ok (.getfield 44, 3) := by decide +kernel
theorem dX7_putHearing_16 : decode cX7_putHearing 16 = .ok (.if_icmp .ge 20, 3) := by decide +kernel
theorem dX7_putHearing_19 : decode cX7_putHearing 19 = .ok (.aload_n 0, 1) := by decide +kernel
theorem dX7_putHearing_20 : decode cX7_putHearing 20 = .ok (.iload_n 2, 1) := by decide +kernel
theorem dX7_putHearing_21 : decode cX7_putHearing 21 = .ok (.aload_n 1, 1) := by decide +kernel
theorem dX7_putHearing_22 : decode cX7_putHearing 22 = .ok (.iload_n 2, 1) := by decide +kernel
theorem dX7_putHearing_23 : decode cX7_putHearing 23 = .ok (.invokevirtual 51, 3) := by decide +kernel
theorem dX7_putHearing_26 : decode cX7_putHearing 26 = .ok (.i2l, 1) := by decide +kernel
theorem dX7_putHearing_27 : decode cX7_putHearing 27 = .ok (.invokevirtual 55, 3) := by decide +kernel
theorem dX7_putHearing_30 : decode cX7_putHearing 30 = .ok (.iinc 2 1, 3) := by decide +kernel
theorem dX7_putHearing_33 : decode cX7_putHearing 33 = .ok (.goto (-22), 3) := by decide +kernel
theorem dX7_putHearing_36 : decode cX7_putHearing 36 = .ok (.return_, 1) := by decide +kernel
theorem dX7_hasPlaces_0 : decode cX7_hasPlaces 0 = .ok (.iload_n 1, 1) := by decide +kernel
theorem dX7_hasPlaces_1 : decode cX7_hasPlaces 1 = .ok (.ifCond .lt 29, 3) := by decide +kernel
theorem dX7_hasPlaces_4 : decode cX7_hasPlaces 4 = .ok (.iload_n 2, 1) := by decide +kernel
theorem dX7_hasPlaces_5 : decode cX7_hasPlaces 5 = .ok (.ifCond .lt 25, 3) := by decide +kernel
theorem dX7_hasPlaces_8 : decode cX7_hasPlaces 8 = .ok (.iload_n 2, 1) := by decide +kernel
theorem dX7_hasPlaces_9 : decode cX7_hasPlaces 9 = .ok (.aload_n 0, 1) := by decide +kernel
theorem dX7_hasPlaces_10 : decode cX7_hasPlaces 10 = .ok (.getfield 19, 3) := by decide +kernel
theorem dX7_hasPlaces_13 : decode cX7_hasPlaces 13 = .ok (.if_icmp .gt 17, 3) := by decide +kernel
theorem dX7_hasPlaces_16 : decode cX7_hasPlaces 16 = .ok (.iload_n 1, 1) := by decide +kernel
theorem dX7_hasPlaces_17 : decode cX7_hasPlaces 17 = .ok (.aload_n 0, 1) := by decide +kernel
theorem dX7_hasPlaces_18 : decode cX7_hasPlaces 18 = .ok (.getfield 19, 3) := by decide +kernel
theorem dX7_hasPlaces_21 : decode cX7_hasPlaces 21 = .ok (.iload_n 2, 1) := by decide +kernel
theorem dX7_hasPlaces_22 : decode cX7_hasPlaces 22 = .ok (.isub, 1) := by decide +kernel
theorem dX7_hasPlaces_23 : decode cX7_hasPlaces 23 = .ok (.if_icmp .gt 7, 3) := by decide +kernel
theorem dX7_hasPlaces_26 : decode cX7_hasPlaces 26 = .ok (.iconst 1, 1) := by decide +kernel
theorem dX7_hasPlaces_27 : decode cX7_hasPlaces 27 = .ok (.goto 4, 3) := by decide +kernel
theorem dX7_hasPlaces_30 : decode cX7_hasPlaces 30 = .ok (.iconst 0, 1) := by decide +kernel
theorem dX7_hasPlaces_31 : decode cX7_hasPlaces 31 = .ok (.ireturn, 1) := by decide +kernel
theorem dX7_elementAt_0 : decode cX7_elementAt 0 = .ok (.aload_n 0, 1) := by decide +kernel
theorem dX7_elementAt_1 : decode cX7_elementAt 1 = .ok (.invokevirtual 22, 3) := by decide +kernel
theorem dX7_elementAt_4 : decode cX7_elementAt 4 = .ok (.ifCond .eq 21, 3) := by decide +kernel
theorem dX7_elementAt_7 : decode cX7_elementAt 7 = .ok (.aload_n 0, 1) := by decide +kernel
theorem dX7_elementAt_8 : decode cX7_elementAt 8 = .ok (.iload_n 1, 1) := by decide +kernel
theorem dX7_elementAt_9 : decode cX7_elementAt 9 = .ok (.iconst 1, 1) := by decide +kernel
theorem dX7_elementAt_10 : decode cX7_elementAt 10 = .ok (.invokevirtual 59, 3) := by decide +kernel
theorem dX7_elementAt_13 : decode cX7_elementAt 13 = .ok (.ifCond .eq 12, 3) := by decide +kernel
theorem dX7_elementAt_16 : decode cX7_elementAt 16 = .ok (.aload_n 0, 1) := by decide +kernel
theorem dX7_elementAt_17 : decode cX7_elementAt 17 = .ok (.getfield 11, 3) := by decide +kernel
theorem dX7_elementAt_20 : decode cX7_elementAt 20 = .ok (.iload_n 1, 1) := by decide +kernel
theorem dX7_elementAt_21 : decode cX7_elementAt 21 = .ok (.laload, 1) := by decide +kernel
theorem dX7_elementAt_22 : decode cX7_elementAt 22 = .ok (.goto 4, 3) := by decide +kernel
theorem dX7_elementAt_25 : decode cX7_elementAt 25 = .ok (.lconst 0, 1) := by decide +kernel
theorem dX7_elementAt_26 : decode cX7_elementAt 26 = .ok (.lreturn, 1) := by decide +kernel
theorem dX7_putElement_0 : decode cX7_putElement 0 = .ok (.aload_n 0, 1) := by decide +kernel
theorem dX7_putElement_1 : decode cX7_putElement 1 = .ok (.iload_n 1, 1) := by decide +kernel
theorem dX7_putElement_2 : decode cX7_putElement 2 = .ok (.iconst 1, 1) := by decide +kernel
theorem dX7_putElement_3 : decode cX7_putElement 3 = .ok (.invokevirtual 59, 3) := by decide +kernel
theorem dX7_putElement_6 : decode cX7_putElement 6 = .ok (.ifCond .eq 14, 3) := by decide +kernel
theorem dX7_putElement_9 : decode cX7_putElement 9 = .ok (.aload_n 0, 1) := by decide +kernel
theorem dX7_putElement_10 : decode cX7_putElement 10 = .ok (.getfield 11, 3) := by decide +kernel
theorem dX7_putElement_13 : decode cX7_putElement 13 = .ok (.iload_n 1, 1) := by decide +kernel
theorem dX7_putElement_14 : decode cX7_putElement 14 = .ok (.aload_n 0, 1) := by decide +kernel
theorem dX7_putElement_15 : decode cX7_putElement 15 = .ok (.lload_n 2, 1) := by decide +kernel
theorem dX7_putElement_16 : decode cX7_putElement 16 = .ok (.invokevirtual 63, 3) := by decide +kernel
theorem dX7_putElement_19 : decode cX7_putElement 19 = .ok (.lastore, 1) := by decide +kernel
theorem dX7_putElement_20 : decode cX7_putElement 20 = .ok (.return_, 1) := by decide +kernel
theorem dX7_lowestBits_0 : decode cX7_lowestBits 0 = .ok (.aload_n 0, 1) := by decide +kernel
theorem dX7_lowestBits_1 : decode cX7_lowestBits 1 = .ok (.getfield 15, 3) := by decide +kernel
theorem dX7_lowestBits_4 : decode cX7_lowestBits 4 = .ok (.tableswitch 62 0 4 #[36, 41, 46, 62, 50], 36) := by decide +kernel
theorem dX7_lowestBits_40 : decode cX7_lowestBits 40 = .ok (.lload_n 1, 1) := by decide +kernel
theorem dX7_lowestBits_41 : decode cX7_lowestBits 41 = .ok (.l2i, 1) := by decide +kernel
theorem dX7_lowestBits_42 : decode cX7_lowestBits 42 = .ok (.i2b, 1) := by decide +kernel
theorem dX7_lowestBits_43 : decode cX7_lowestBits 43 = .ok (.i2l, 1) := by decide +kernel
theorem dX7_lowestBits_44 : decode cX7_lowestBits 44 = .ok (.lreturn, 1) := by decide +kernel
theorem dX7_lowestBits_45 : decode cX7_lowestBits 45 = .ok (.lload_n 1, 1) := by decide +kernel
theorem dX7_lowestBits_46 : decode cX7_lowestBits 46 = .ok (.l2i, 1) := by decide +kernel
theorem dX7_lowestBits_47 : decode cX7_lowestBits 47 = .ok (.i2s, 1) := by decide +kernel
theorem dX7_lowestBits_48 : decode cX7_lowestBits 48 = .ok (.i2l, 1) := by decide +kernel
theorem dX7_lowestBits_49 : decode cX7_lowestBits 49 = .ok (.lreturn, 1) := by decide +kernel
theorem dX7_lowestBits_50 : decode cX7_lowestBits 50 = .ok (.lload_n 1, 1) := by decide +kernel
theorem dX7_lowestBits_51 : decode cX7_lowestBits 51 = .ok (.l2i, 1) := by decide +kernel
theorem dX7_lowestBits_52 : decode cX7_lowestBits 52 = .ok (.i2l, 1) := by decide +kernel
theorem dX7_lowestBits_53 : decode cX7_lowestBits 53 = .ok (.lreturn, 1) := by decide +kernel
theorem dX7_lowestBits_54 : decode cX7_lowestBits 54 = .ok (.lload_n 1, 1) := by decide +kernel
theorem dX7_lowestBits_55 : decode cX7_lowestBits 55 = .ok (.lconst 0, 1) := by decide +kernel
theorem dX7_lowestBits_56 : decode cX7_lowestBits 56 = .ok (.lcmp, 1) := by decide +kernel
theorem dX7_lowestBits_57 : decode cX7_lowestBits 57 = .ok (.ifCond .eq 7, 3) := by decide +kernel
theorem dX7_lowestBits_60 : decode cX7_lowestBits 60 = .ok (.lconst 1, 1) := by decide +kernel
theorem dX7_lowestBits_61 : decode cX7_lowestBits 61 = .ok (.goto 4, 3) := by decide +kernel
theorem dX7_lowestBits_64 : decode cX7_lowestBits 64 = .ok (.lconst 0, 1) := by decide +kernel
theorem dX7_lowestBits_65 : decode cX7_lowestBits 65 = .ok (.lreturn, 1) := by decide +kernel
theorem dX7_lowestBits_66 : decode cX7_lowestBits 66 = .ok (.lload_n 1, 1) := by decide +kernel
theorem dX7_lowestBits_67 : decode cX7_lowestBits 67 = .ok (.lreturn, 1) := by decide +kernel
theorem dX7_takeElements_0 : decode cX7_takeElements 0 = .ok (.aload_n 1, 1) := by decide +kernel
theorem dX7_takeElements_1 : decode cX7_takeElements 1 = .ok (.iload_n 2, 1) := by decide +kernel
theorem dX7_takeElements_2 : decode cX7_takeElements 2 = .ok (.iload 4, 2) := by decide +kernel
theorem dX7_takeElements_4 : decode cX7_takeElements 4 = .ok (.invokevirtual 59, 3) := by decide +kernel
theorem dX7_takeElements_7 : decode cX7_takeElements 7 = .ok (.ifCond .eq 28, 3) := by decide +kernel
theorem dX7_takeElements_10 : decode cX7_takeElements 10 = .ok (.aload_n 0, 1) := by decide +kernel
theorem dX7_takeElements_11 : decode cX7_takeElements 11 = .ok (.iload_n 3, 1) := by decide +kernel
theorem dX7_takeElements_12 : decode cX7_takeElements 12 = .ok (.iload 4, 2) := by decide +kernel
theorem dX7_takeElements_14 : decode cX7_takeElements 14 = .ok (.invokevirtual 59, 3) := by decide +kernel
theorem dX7_takeElements_17 : decode cX7_takeElements 17 = .ok (.ifCond .eq 18, 3) := by decide +kernel
theorem dX7_takeElements_20 : decode cX7_takeElements 20 = .ok (.aload_n 1, 1) := by decide +kernel
theorem dX7_takeElements_21 : decode cX7_takeElements 21 = .ok (.getfield 11, 3) := by decide +kernel
theorem dX7_takeElements_24 : decode cX7_takeElements 24 = .ok (.iload_n 2, 1) := by decide +kernel
theorem dX7_takeElements_25 : decode cX7_takeElements 25 = .ok (.aload_n 0, 1) := by decide +kernel
theorem dX7_takeElements_26 : decode cX7_takeElements 26 = .ok (.getfield 11, 3) := by decide +kernel
theorem dX7_takeElements_29 : decode cX7_takeElements 29 = .ok (.iload_n 3, 1) := by decide +kernel
theorem dX7_takeElements_30 : decode cX7_takeElements 30 = .ok (.iload 4, 2) := by decide +kernel
theorem dX7_takeElements_32 : decode cX7_takeElements 32 = .ok (.invokestatic 67, 3) := by decide +kernel
theorem dX7_takeElements_35 : decode cX7_takeElements 35 = .ok (.return_, 1) := by decide +kernel
theorem dX7_startsWithNotes_0 : decode cX7_startsWithNotes 0 = .ok (.iconst 0, 1) := by decide +kernel
theorem dX7_startsWithNotes_1 : decode cX7_startsWithNotes 1 = .ok (.istore_n 2, 1) := by decide +kernel
theorem dX7_startsWithNotes_2 : decode cX7_startsWithNotes 2 = .ok (.iload_n 2, 1) := by decide +kernel
theorem dX7_startsWithNotes_3 : decode cX7_startsWithNotes 3 = .ok (.iload_n 1, 1) := by decide +kernel
theorem dX7_startsWithNotes_4 : decode cX7_startsWithNotes 4 = .ok (.if_icmp .ge 22, 3) := by decide +kernel
theorem dX7_startsWithNotes_7 : decode cX7_startsWithNotes 7 = .ok (.aload_n 0, 1) := by decide +kernel
theorem dX7_startsWithNotes_8 : decode cX7_startsWithNotes 8 = .ok (.iload_n 2, 1) := by decide +kernel
theorem dX7_startsWithNotes_9 : decode cX7_startsWithNotes 9 = .ok (.invokevirtual 73, 3) := by decide +kernel
theorem dX7_startsWithNotes_12 : decode cX7_startsWithNotes 12 = .ok (.invokestatic 77, 3) := by decide +kernel
theorem dX7_startsWithNotes_15 : decode cX7_startsWithNotes 15 = .ok (.ifCond .ne 5, 3) := by decide +kernel
theorem dX7_startsWithNotes_18 : decode cX7_startsWithNotes 18 = .ok (.iconst 0, 1) := by decide +kernel
theorem dX7_startsWithNotes_19 : decode cX7_startsWithNotes 19 = .ok (.ireturn, 1) := by decide +kernel
theorem dX7_startsWithNotes_20 : decode cX7_startsWithNotes 20 = .ok (.iinc 2 1, 3) := by decide +kernel
theorem dX7_startsWithNotes_23 : decode cX7_startsWithNotes 23 = .ok (.goto (-21), 3) := by decide +kernel
theorem dX7_startsWithNotes_26 : decode cX7_startsWithNotes 26 = .ok (.iconst 1, 1) := by decide +kernel
theorem dX7_startsWithNotes_27 : decode cX7_startsWithNotes 27 = .ok (.ireturn, 1) := by decide +kernel
theorem dX7_firstUnheard_0 : decode cX7_firstUnheard 0 = .ok (.iconst 0, 1) := by decide +kernel
theorem dX7_firstUnheard_1 : decode cX7_firstUnheard 1 = .ok (.istore_n 2, 1) := by decide +kernel
theorem dX7_firstUnheard_2 : decode cX7_firstUnheard 2 = .ok (.iload_n 2, 1) := by decide +kernel
theorem dX7_firstUnheard_3 : decode cX7_firstUnheard 3 = .ok (.iload_n 1, 1) := by decide +kernel
theorem dX7_firstUnheard_4 : decode cX7_firstUnheard 4 = .ok (.if_icmp .ge 32, 3) := by decide +kernel
theorem dX7_firstUnheard_7 : decode cX7_firstUnheard 7 = .ok (.aload_n 0, 1) := by decide +kernel
theorem dX7_firstUnheard_8 : decode cX7_firstUnheard 8 = .ok (.iload_n 2, 1) := by decide +kernel
theorem dX7_firstUnheard_9 : decode cX7_firstUnheard 9 = .ok (.invokevirtual 73, 3) := by decide +kernel
theorem dX7_firstUnheard_12 : decode cX7_firstUnheard 12 = .ok (.lstore_n 3, 1) := by decide +kernel
theorem dX7_firstUnheard_13 : decode cX7_firstUnheard 13 = .ok (.lload_n 3, 1) := by decide +kernel
theorem dX7_firstUnheard_14 : decode cX7_firstUnheard 14 = .ok (.invokestatic 77, 3) := by decide +kernel
theorem dX7_firstUnheard_17 : decode cX7_firstUnheard 17 = .ok (.ifCond .ne 13, 3) := by decide +kernel
theorem dX7_firstUnheard_20 : decode cX7_firstUnheard 20 = .ok (.lload_n 3, 1) := by decide +kernel
theorem dX7_firstUnheard_21 : decode cX7_firstUnheard 21 = .ok (.ldc2_w 83, 3) := by decide +kernel
theorem dX7_firstUnheard_24 : decode cX7_firstUnheard 24 = .ok (.lcmp, 1) := by decide +kernel
theorem dX7_firstUnheard_25 : decode cX7_firstUnheard 25 = .ok (.ifCond .eq 5, 3) := by decide +kernel
theorem dX7_firstUnheard_28 : decode cX7_firstUnheard 28 = .ok (.iload_n 2, 1) := by decide +kernel
theorem dX7_firstUnheard_29 : decode cX7_firstUnheard 29 = .ok (.ireturn, 1) := by decide +kernel
theorem dX7_firstUnheard_30 : decode cX7_firstUnheard 30 = .ok (.iinc 2 1, 3) := by decide +kernel
theorem dX7_firstUnheard_33 : decode cX7_firstUnheard 33 = .ok (.goto (-31), 3) := by decide +kernel
theorem dX7_firstUnheard_36 : decode cX7_firstUnheard 36 = .ok (.iconst (-1), 1) := by decide +kernel
theorem dX7_firstUnheard_37 : decode cX7_firstUnheard 37 = .ok (.ireturn, 1) := by decide +kernel
theorem dX8_init_0 : decode cX8_init 0 = .ok (.aload_n 0, 1) := by decide +kernel
theorem dX8_init_1 : decode cX8_init 1 = .ok (.invokespecial 3, 3) := by decide +kernel
theorem dX8_init_4 : decode cX8_init 4 = .ok (.aload_n 0, 1) := by decide +kernel
theorem dX8_init_5 : decode cX8_init 5 = .ok (.sipush 250, 3) := by decide +kernel
theorem dX8_init_8 : decode cX8_init 8 = .ok (.newarray .int, 2) := by decide +kernel
theorem dX8_init_10 : decode cX8_init 10 = .ok (.putfield 11, 3) := by decide +kernel
theorem dX8_init_13 : decode cX8_init 13 = .ok (.aload_n 0, 1) := by decide +kernel
theorem dX8_init_14 : decode cX8_init 14 = .ok (.iconst 0, 1) := by decide +kernel
theorem dX8_init_15 : decode cX8_init 15 = .ok (.putfield 15, 3) := by decide +kernel
theorem dX8_init_18 : decode cX8_init 18 = .ok (.aload_n 0, 1) := by decide +kernel
theorem dX8_init_19 : decode cX8_init 19 = .ok (.iconst 0, 1) := by decide +kernel
theorem dX8_init_20 : decode cX8_init 20 = .ok (.putfield 19, 3) := by decide +kernel
theorem dX8_init_23 : decode cX8_init 23 = .ok (.aload_n 0, 1) := by decide +kernel
theorem dX8_init_24 : decode cX8_init 24 = .ok (.iconst 0, 1) := by decide +kernel
theorem dX8_init_25 : decode cX8_init 25 = .ok (.putfield 22, 3) := by decide +kernel
theorem dX8_init_28 : decode cX8_init 28 = .ok (.return_, 1) := by decide +kernel
theorem dX8_hasRoom_0 : decode cX8_hasRoom 0 = .ok (.aload_n 0, 1) := by decide +kernel
theorem dX8_hasRoom_1 : decode cX8_hasRoom 1 = .ok (.getfield 15, 3) := by decide +kernel
theorem dX8_hasRoom_4 : decode cX8_hasRoom 4 = .ok (.aload_n 0, 1) := by decide +kernel
theorem dX8_hasRoom_5 : decode cX8_hasRoom 5 = .ok (.getfield 11, 3) := by decide +kernel
theorem dX8_hasRoom_8 : decode cX8_hasRoom 8 = .ok (.arraylength, 1) := by decide +kernel
theorem dX8_hasRoom_9 : decode cX8_hasRoom 9 = .ok (.if_icmp .ge 7, 3) := by decide +kernel
theorem dX8_hasRoom_12 : decode cX8_hasRoom 12 = .ok (.iconst 1, 1) := by decide +kernel
theorem dX8_hasRoom_13 : decode cX8_hasRoom 13 = .ok (.goto 4, 3) := by decide +kernel
theorem dX8_hasRoom_16 : decode cX8_hasRoom 16 = .ok (.iconst 0, 1) := by decide +kernel
theorem dX8_hasRoom_17 : decode cX8_hasRoom 17 = .ok (.ireturn, 1) := by decide +kernel
theorem dX8_append_0 : decode cX8_append 0 = .ok (.aload_n 0, 1) := by decide +kernel
theorem dX8_append_1 : decode cX8_append 1 = .ok (.getfield 15, 3) := by decide +kernel
theorem dX8_append_4 : decode cX8_append 4 = .ok (.ifCond .lt 35, 3) := by decide +kernel
theorem dX8_append_7 : decode cX8_append 7 = .ok (.aload_n 0, 1) := by decide +kernel
theorem dX8_append_8 : decode cX8_append 8 = .ok (.getfield 15, 3) := by decide +kernel
theorem dX8_append_11 : decode cX8_append 11 = .ok (.aload_n 0, 1) := by decide +kernel
theorem dX8_append_12 : decode cX8_append 12 = .ok (.getfield 11, 3) := by decide +kernel
theorem dX8_append_15 : decode cX8_append 15 = .ok (.arraylength, 1) := by decide +kernel
theorem dX8_append_16 : decode cX8_append 16 = .ok (.if_icmp .ge 23, 3) := by decide +kernel
theorem dX8_append_19 : decode cX8_append 19 = .ok (.aload_n 0, 1) := by decide +kernel
theorem dX8_append_20 : decode cX8_append 20 = .ok (.getfield 11, 3) := by decide +kernel
theorem dX8_append_23 : decode cX8_append 23 = .ok (.aload_n 0, 1) := by decide +kernel
theorem dX8_append_24 : decode cX8_append 24 = .ok (.getfield 15, 3) := by decide +kernel
theorem dX8_append_27 : decode cX8_append 27 = .ok (.iload_n 1, 1) := by decide +kernel
theorem dX8_append_28 : decode cX8_append 28 = .ok (.iastore, 1) := by decide +kernel
theorem dX8_append_29 : decode cX8_append 29 = .ok (.aload_n 0, 1) := by decide +kernel
theorem dX8_append_30 : decode cX8_append 30 = .ok (.dup, 1) := by decide +kernel
theorem dX8_append_31 : decode cX8_append 31 = .ok (.getfield 15, 3) := by decide +kernel
theorem dX8_append_34 : decode cX8_append 34 = .ok (.iconst 1, 1) := by decide +kernel
theorem dX8_append_35 : decode cX8_append 35 = .ok (.iadd, 1) := by decide +kernel
theorem dX8_append_36 : decode cX8_append 36 = .ok (.putfield 15, 3) := by decide +kernel
theorem dX8_append_39 : decode cX8_append 39 = .ok (.aload_n 0, 1) := by decide +kernel
theorem dX8_append_40 : decode cX8_append 40 = .ok (.getfield 15, 3) := by decide +kernel
theorem dX8_append_43 : decode cX8_append 43 = .ok (.ireturn, 1) := by decide +kernel
theorem dX8_empty_0 : decode cX8_empty 0 = .ok (.aload_n 0, 1) := by decide +kernel
theorem dX8_empty_1 : decode cX8_empty 1 = .ok (.getfield 15, 3) := by decide +kernel
theorem dX8_empty_4 : decode cX8_empty 4 = .ok (.istore_n 1, 1) := by decide +kernel
theorem dX8_empty_5 : decode cX8_empty 5 = .ok (.aload_n 0, 1) := by decide +kernel
theorem dX8_empty_6 : decode cX8_empty 6 = .ok (.iconst 0, 1) := by decide +kernel
theorem dX8_empty_7 : decode cX8_empty 7 = .ok (.putfield 15, 3) := by decide +kernel
theorem dX8_empty_10 : decode cX8_empty 10 = .ok (.aload_n 0, 1) := by decide +kernel
theorem dX8_empty_11 : decode cX8_empty 11 = .ok (.iconst 0, 1) := by decide +kernel
theorem dX8_empty_12 : decode cX8_empty 12 = .ok (.putfield 19, 3) := by decide +kernel
theorem dX8_empty_15 : decode cX8_empty 15 = .ok (.aload_n 0, 1) := by decide +kernel
theorem dX8_empty_16 : decode cX8_empty 16 = .ok (.iconst 0, 1) := by decide +kernel
theorem dX8_empty_17 : decode cX8_empty 17 = .ok (.putfield 22, 3) := by decide +kernel
theorem dX8_empty_20 : decode cX8_empty 20 = .ok (.iload_n 1, 1) := by decide +kernel
theorem dX8_empty_21 : decode cX8_empty 21 = .ok (.ireturn, 1) := by decide +kernel
theorem dX8_byteAt_0 : decode cX8_byteAt 0 = .ok (.iload_n 1, 1) := by decide +kernel
theorem dX8_byteAt_1 : decode cX8_byteAt 1 = .ok (.ifCond .lt 29, 3) := by decide +kernel
theorem dX8_byteAt_4 : decode cX8_byteAt 4 = .ok (.iload_n 1, 1) := by decide +kernel
theorem dX8_byteAt_5 : decode cX8_byteAt 5 = .ok (.aload_n 0, 1) := by decide +kernel
theorem dX8_byteAt_6 : decode cX8_byteAt 6 = .ok (.getfield 15, 3) := by decide +kernel
theorem dX8_byteAt_9 : decode cX8_byteAt 9 = .ok (.if_icmp .ge 21, 3) := by decide +kernel
theorem dX8_byteAt_12 : decode cX8_byteAt 12 = .ok (.iload_n 1, 1) := by decide +kernel
theorem dX8_byteAt_13 : decode cX8_byteAt 13 = .ok (.aload_n 0, 1) := by decide +kernel
theorem dX8_byteAt_14 : decode cX8_byteAt 14 = .ok (.getfield 11, 3) := by decide +kernel
theorem dX8_byteAt_17 : decode cX8_byteAt 17 = .ok (.arraylength, 1) := by decide +kernel
theorem dX8_byteAt_18 : decode cX8_byteAt 18 = .ok (.if_icmp .ge 12, 3) := by decide +kernel
theorem dX8_byteAt_21 : decode cX8_byteAt 21 = .ok (.aload_n 0, 1) := by decide +kernel
theorem dX8_byteAt_22 : decode cX8_byteAt 22 = .ok (.getfield 11, 3) := by decide +kernel
theorem dX8_byteAt_25 : decode cX8_byteAt 25 = .ok (.iload_n 1, 1) := by decide +kernel
theorem dX8_byteAt_26 : decode cX8_byteAt 26 = .ok (.iaload, 1) := by decide +kernel
theorem dX8_byteAt_27 : decode cX8_byteAt 27 = .ok (.goto 4, 3) := by decide +kernel
theorem dX8_byteAt_30 : decode cX8_byteAt 30 = .ok (.iconst (-1), 1) := by decide +kernel
theorem dX8_byteAt_31 : decode cX8_byteAt 31 = .ok (.ireturn, 1) := by decide +kernel
theorem dX8_isLetter_0 : decode cX8_isLetter 0 = .ok (.iload_n 0, 1) := by decide +kernel
theorem dX8_isLetter_1 : decode cX8_isLetter 1 = .ok (.bipush 97, 2) := by decide +kernel
theorem dX8_isLetter_3 : decode cX8_isLetter 3 = .ok (.if_icmp .lt 13, 3) := by decide +kernel
theorem dX8_isLetter_6 : decode cX8_isLetter 6 = .ok (.iload_n 0, 1) := by decide +kernel
theorem dX8_isLetter_7 : decode cX8_isLetter 7 = .ok (.bipush 122, 2) := by decide +kernel
theorem dX8_isLetter_9 : decode cX8_isLetter 9 = .ok (.if_icmp .gt 7, 3) := by decide +kernel
theorem dX8_isLetter_12 : decode cX8_isLetter 12 = .ok (.iconst 1, 1) := by decide +kernel
theorem dX8_isLetter_13 : decode cX8_isLetter 13 = .ok (.goto 4, 3) := by decide +kernel
theorem dX8_isLetter_16 : decode cX8_isLetter 16 = .ok (.iconst 0, 1) := by decide +kernel
theorem dX8_isLetter_17 : decode cX8_isLetter 17 = .ok (.ireturn, 1) := by decide +kernel
theorem dX8_isDigit_0 : decode cX8_isDigit 0 = .ok (.iload_n 0, 1) := by decide +kernel
theorem dX8_isDigit_1 : decode cX8_isDigit 1 = .ok (.bipush 48, 2) := by decide +kernel
theorem dX8_isDigit_3 : decode cX8_isDigit 3 = .ok (.if_icmp .lt 13, 3) := by decide +kernel
theorem dX8_isDigit_6 : decode cX8_isDigit 6 = .ok (.iload_n 0, 1) := by decide +kernel
theorem dX8_isDigit_7 : decode cX8_isDigit 7 = .ok (.bipush 57, 2) := by decide +kernel
theorem dX8_isDigit_9 : decode cX8_isDigit 9 = .ok (.if_icmp .gt 7, 3) := by decide +kernel
theorem dX8_isDigit_12 : decode cX8_isDigit 12 = .ok (.iconst 1, 1) := by decide +kernel
theorem dX8_isDigit_13 : decode cX8_isDigit 13 = .ok (.goto 4, 3) := by decide +kernel
theorem dX8_isDigit_16 : decode cX8_isDigit 16 = .ok (.iconst 0, 1) := by decide +kernel
theorem dX8_isDigit_17 : decode cX8_isDigit 17 = .ok (.ireturn, 1) := by decide +kernel
theorem dX8_toFirstToken_0 : decode cX8_toFirstToken 0 = .ok (.aload_n 0, 1) := by decide +kernel
theorem dX8_toFirstToken_1 : decode cX8_toFirstToken 1 = .ok (.iconst 0, 1) := by decide +kernel
theorem dX8_toFirstToken_2 : decode cX8_toFirstToken 2 = .ok (.putfield 22, 3) := by decide +kernel
theorem dX8_toFirstToken_5 : decode cX8_toFirstToken 5 = .ok (.aload_n 0, 1) := by decide +kernel
theorem dX8_toFirstToken_6 : decode cX8_toFirstToken 6 = .ok (.invokevirtual 25, 3) := by decide +kernel
theorem dX8_toFirstToken_9 : decode cX8_toFirstToken 9 = .ok (.return_, 1) := by decide +kernel
theorem dX8_toNextToken_0 : decode cX8_toNextToken 0 = .ok (.aload_n 0, 1) := by decide +kernel
theorem dX8_toNextToken_1 : decode cX8_toNextToken 1 = .ok (.aload_n 0, 1) := by decide +kernel
theorem dX8_toNextToken_2 : decode cX8_toNextToken 2 = .ok (.getfield 22, 3) := by decide +kernel
theorem dX8_toNextToken_5 : decode cX8_toNextToken 5 = .ok (.putfield 19, 3) := by decide +kernel
theorem dX8_toNextToken_8 : decode cX8_toNextToken 8 = .ok (.aload_n 0, 1) := by decide +kernel
theorem dX8_toNextToken_9 : decode cX8_toNextToken 9 = .ok (.getfield 19, 3) := by decide +kernel
theorem dX8_toNextToken_12 : decode cX8_toNextToken 12 = .ok (.aload_n 0, 1) := by decide +kernel
theorem dX8_toNextToken_13 : decode cX8_toNextToken 13 = .ok (.getfield 15, 3) := by decide +kernel
theorem dX8_toNextToken_16 : decode cX8_toNextToken 16 = .ok (.if_icmp .ge 29, 3) := by decide +kernel
theorem dX8_toNextToken_19 : decode cX8_toNextToken 19 = .ok (.aload_n 0, 1) := by decide +kernel
theorem dX8_toNextToken_20 : decode cX8_toNextToken 20 = .ok (.aload_n 0, 1) := by decide +kernel
theorem dX8_toNextToken_21 : decode cX8_toNextToken 21 = .ok (.getfield 19, 3) := by decide +kernel
theorem dX8_toNextToken_24 : decode cX8_toNextToken 24 = .ok (.invokevirtual 28, 3) := by decide +kernel
theorem dX8_toNextToken_27 : decode cX8_toNextToken 27 = .ok (.bipush 32, 2) := by decide +kernel
theorem dX8_toNextToken_29 : decode cX8_toNextToken 29 = .ok (.if_icmp .ne 16, 3) := by decide +kernel
theorem dX8_toNextToken_32 : decode cX8_toNextToken 32 = .ok (.aload_n 0, 1) := by decide +kernel
theorem dX8_toNextToken_33 : decode cX8_toNextToken 33 = .ok (.dup, 1) := by decide +kernel
theorem dX8_toNextToken_34 : decode cX8_toNextToken 34 = .ok (.getfield 19, 3) := by decide +kernel
theorem dX8_toNextToken_37 : decode cX8_toNextToken 37 = .ok (.iconst 1, 1) := by decide +kernel
theorem dX8_toNextToken_38 : decode cX8_toNextToken 38 = .ok (.iadd, 1) := by decide +kernel
theorem dX8_toNextToken_39 : decode cX8_toNextToken 39 = .ok (.putfield 19, 3) := by decide +kernel
theorem dX8_toNextToken_42 : decode cX8_toNextToken 42 = .ok (.goto (-34), 3) := by decide +kernel
theorem dX8_toNextToken_45 : decode cX8_toNextToken 45 = .ok (.aload_n 0, 1) := by decide +kernel
theorem dX8_toNextToken_46 : decode cX8_toNextToken 46 = .ok (.aload_n 0, 1) := by decide +kernel
theorem dX8_toNextToken_47 : decode cX8_toNextToken 47 = .ok (.getfield 19, 3) := by decide +kernel
theorem dX8_toNextToken_50 : decode cX8_toNextToken 50 = .ok (.putfield 22, 3) := by decide +kernel
theorem dX8_toNextToken_53 : decode cX8_toNextToken 53 = .ok (.aload_n 0, 1) := by decide +kernel
theorem dX8_toNextToken_54 : decode cX8_toNextToken 54 = .ok (.aload_n 0, 1) := by decide +kernel
theorem dX8_toNextToken_55 : decode cX8_toNextToken 55 = .ok (.getfield 19, 3) := by decide +kernel
theorem dX8_toNextToken_58 : decode cX8_toNextToken 58 = .ok (.invokevirtual 28, 3) := by decide +kernel
theorem dX8_toNextToken_61 : decode cX8_toNextToken 61 = .ok (.invokestatic 32, 3) := by decide +kernel
theorem dX8_toNextToken_64 : decode cX8_toNextToken 64 = .ok (.ifCond .eq 41, 3) := by decide +kernel
theorem dX8_toNextToken_67 : decode cX8_toNextToken 67 = .ok (.aload_n 0, 1) := by decide +kernel
theorem dX8_toNextToken_68 : decode cX8_toNextToken 68 = .ok (.getfield 22, 3) := by decide +kernel
theorem dX8_toNextToken_71 : decode cX8_toNextToken 71 = .ok (.aload_n 0, 1) := by decide +kernel
theorem dX8_toNextToken_72 : decode cX8_toNextToken 72 = .ok (.getfield 15, 3) := by decide +kernel
theorem dX8_toNextToken_75 : decode cX8_toNextToken 75 = .ok (.if_icmp .ge 105, 3) := by decide +kernel
theorem dX8_toNextToken_78 : decode cX8_toNextToken 78 = .ok (.aload_n 0, 1) := by decide +kernel
theorem dX8_toNextToken_79 : decode cX8_toNextToken 79 = .ok (.aload_n 0, 1) := by decide +kernel
theorem dX8_toNextToken_80 : decode cX8_toNextToken 80 = .ok (.getfield 22, 3) := by decide +kernel
theorem dX8_toNextToken_83 : decode cX8_toNextToken 83 = .ok (.invokevirtual 28, 3) := by decide +kernel
theorem dX8_toNextToken_86 : decode cX8_toNextToken 86 = .ok (.invokestatic 32, 3) := by decide +kernel
theorem dX8_toNextToken_89 : decode cX8_toNextToken 89 = .ok (.ifCond .eq 91, 3) := by decide +kernel
theorem dX8_toNextToken_92 : decode cX8_toNextToken 92 = .ok (.aload_n 0, 1) := by decide +kernel
theorem dX8_toNextToken_93 : decode cX8_toNextToken 93 = .ok (.dup, 1) := by decide +kernel
theorem dX8_toNextToken_94 : decode cX8_toNextToken 94 = .ok (.getfield 22, 3) := by decide +kernel
theorem dX8_toNextToken_97 : decode cX8_toNextToken 97 = .ok (.iconst 1, 1) := by decide +kernel
theorem dX8_toNextToken_98 : decode cX8_toNextToken 98 = .ok (.iadd, 1) := by decide +kernel
theorem dX8_toNextToken_99 : decode cX8_toNextToken 99 = .ok (.putfield 22, 3) := by decide +kernel
theorem dX8_toNextToken_102 : decode cX8_toNextToken 102 = .ok (.goto (-35), 3) := by decide +kernel
theorem dX8_toNextToken_105 : decode cX8_toNextToken 105 = .ok (.aload_n 0, 1) := by decide +kernel
theorem dX8_toNextToken_106 : decode cX8_toNextToken 106 = .ok (.aload_n 0, 1) := by decide +kernel
theorem dX8_toNextToken_107 : decode cX8_toNextToken 107 = .ok (.getfield 19, 3) := by decide +kernel
theorem dX8_toNextToken_110 : decode cX8_toNextToken 110 = .ok (.invokevirtual 28, 3) := by decide +kernel
theorem dX8_toNextToken_113 : decode cX8_toNextToken 113 = .ok (.invokestatic 36, 3) := by decide +kernel
theorem dX8_toNextToken_116 : decode cX8_toNextToken 116 = .ok (.ifCond .eq 41, 3) := by decide +kernel
theorem dX8_toNextToken_119 : decode cX8_toNextToken 119 = .ok (.aload_n 0, 1) := by decide +kernel
theorem dX8_toNextToken_120 : decode cX8_toNextToken 120 = .ok (.getfield 22, 3) := by decide +kernel
theorem dX8_toNextToken_123 : decode cX8_toNextToken 123 = .ok (.aload_n 0, 1) := by decide +kernel
theorem dX8_toNextToken_124 : decode cX8_toNextToken 124 = .ok (.getfield 15, 3) := by decide +kernel
theorem dX8_toNextToken_127 : decode cX8_toNextToken 127 = .ok (.if_icmp .ge 53, 3) := by decide +kernel
theorem dX8_toNextToken_130 : decode cX8_toNextToken 130 = .ok (.aload_n 0, 1) := by decide +kernel
theorem dX8_toNextToken_131 : decode cX8_toNextToken 131 = .ok (.aload_n 0, 1) := by decide +kernel
theorem dX8_toNextToken_132 : decode cX8_toNextToken 132 = .ok (.getfield 22, 3) := by decide +kernel
theorem dX8_toNextToken_135 : decode cX8_toNextToken 135 = .ok (.invokevirtual 28, 3) := by decide +kernel
theorem dX8_toNextToken_138 : decode cX8_toNextToken 138 = .ok (.invokestatic 36, 3) := by decide +kernel
theorem dX8_toNextToken_141 : decode cX8_toNextToken 141 = .ok (.ifCond .eq 39, 3) := by decide +kernel
theorem dX8_toNextToken_144 : decode cX8_toNextToken 144 = .ok (.aload_n 0, 1) := by decide +kernel
theorem dX8_toNextToken_145 : decode cX8_toNextToken 145 = .ok (.dup, 1) := by decide +kernel
theorem dX8_toNextToken_146 : decode cX8_toNextToken 146 = .ok (.getfield 22, 3) := by decide +kernel
theorem dX8_toNextToken_149 : decode cX8_toNextToken 149 = .ok (.iconst 1, 1) := by decide +kernel
theorem dX8_toNextToken_150 : decode cX8_toNextToken 150 = .ok (.iadd, 1) := by decide +kernel
theorem dX8_toNextToken_151 : decode cX8_toNextToken 151 = .ok (.putfield 22, 3) := by decide +kernel
theorem dX8_toNextToken_154 : decode cX8_toNextToken 154 = .ok (.goto (-35), 3) := by decide +kernel
theorem dX8_toNextToken_157 : decode cX8_toNextToken 157 = .ok (.aload_n 0, 1) := by decide +kernel
theorem dX8_toNextToken_158 : decode cX8_toNextToken 158 = .ok (.aload_n 0, 1) := by decide +kernel
theorem dX8_toNextToken_159 : decode cX8_toNextToken 159 = .ok (.getfield 19, 3) := by decide +kernel
theorem dX8_toNextToken_162 : decode cX8_toNextToken 162 = .ok (.invokevirtual 28, 3) := by decide +kernel
theorem dX8_toNextToken_165 : decode cX8_toNextToken 165 = .ok (.bipush 59, 2) := by decide +kernel
theorem dX8_toNextToken_167 : decode cX8_toNextToken 167 = .ok (.if_icmp .ne 13, 3) := by decide +kernel
theorem dX8_toNextToken_170 : decode cX8_toNextToken 170 = .ok (.aload_n 0, 1) := by decide +kernel
theorem dX8_toNextToken_171 : decode cX8_toNextToken 171 = .ok (.dup, 1) := by decide +kernel
theorem dX8_toNextToken_172 : decode cX8_toNextToken 172 = .ok (.getfield 22, 3) := by decide +kernel
theorem dX8_toNextToken_175 : decode cX8_toNextToken 175 = .ok (.iconst 1, 1) := by decide +kernel
theorem dX8_toNextToken_176 : decode cX8_toNextToken 176 = .ok (.iadd, 1) := by decide +kernel
theorem dX8_toNextToken_177 : decode cX8_toNextToken 177 = .ok (.putfield 22, 3) := by decide +kernel
theorem dX8_toNextToken_180 : decode cX8_toNextToken 180 = .ok (.return_, 1) := by decide +kernel
theorem dX8_isAtEnd_0 : decode cX8_isAtEnd 0 = .ok (.aload_n 0, 1) := by decide +kernel
theorem dX8_isAtEnd_1 : decode cX8_isAtEnd 1 = .ok (.getfield 19, 3) := by decide +kernel
theorem dX8_isAtEnd_4 : decode cX8_isAtEnd 4 = .ok (.aload_n 0, 1) := by decide +kernel
theorem dX8_isAtEnd_5 : decode cX8_isAtEnd 5 = .ok (.getfield 15, 3) := by decide +kernel
theorem dX8_isAtEnd_8 : decode cX8_isAtEnd 8 = .ok (.if_icmp .lt 7, 3) := by decide +kernel
theorem dX8_isAtEnd_11 : decode cX8_isAtEnd 11 = .ok (.iconst 1, 1) := by decide +kernel
theorem dX8_isAtEnd_12 : decode cX8_isAtEnd 12 = .ok (.goto 4, 3) := by decide +kernel
theorem dX8_isAtEnd_15 : decode cX8_isAtEnd 15 = .ok (.iconst 0, 1) := by decide +kernel
theorem dX8_isAtEnd_16 : decode cX8_isAtEnd 16 = .ok (.ireturn, 1) := by decide +kernel
theorem dX8_isAtSign_0 : decode cX8_isAtSign 0 = .ok (.aload_n 0, 1) := by decide +kernel
theorem dX8_isAtSign_1 : decode cX8_isAtSign 1 = .ok (.aload_n 0, 1) := by decide +kernel
theorem dX8_isAtSign_2 : decode cX8_isAtSign 2 = .ok (.getfield 19, 3) := by decide +kernel
theorem dX8_isAtSign_5 : decode cX8_isAtSign 5 = .ok (.invokevirtual 28, 3) := by decide +kernel
theorem dX8_isAtSign_8 : decode cX8_isAtSign 8 = .ok (.bipush 59, 2) := by decide +kernel
theorem dX8_isAtSign_10 : decode cX8_isAtSign 10 = .ok (.if_icmp .ne 7, 3) := by decide +kernel
theorem dX8_isAtSign_13 : decode cX8_isAtSign 13 = .ok (.iconst 1, 1) := by decide +kernel
theorem dX8_isAtSign_14 : decode cX8_isAtSign 14 = .ok (.goto 4, 3) := by decide +kernel
theorem dX8_isAtSign_17 : decode cX8_isAtSign 17 = .ok (.iconst 0, 1) := by decide +kernel
theorem dX8_isAtSign_18 : decode cX8_isAtSign 18 = .ok (.ireturn, 1) := by decide +kernel
theorem dX8_isAtWord_0 : decode cX8_isAtWord 0 = .ok (.aload_n 0, 1) := by decide +kernel
theorem dX8_isAtWord_1 : decode cX8_isAtWord 1 = .ok (.getfield 22, 3) := by decide +kernel
theorem dX8_isAtWord_4 : decode cX8_isAtWord 4 = .ok (.aload_n 0, 1) := by decide +kernel
theorem dX8_isAtWord_5 : decode cX8_isAtWord 5 = .ok (.getfield 19, 3) := by decide +kernel
theorem dX8_isAtWord_8 : decode cX8_isAtWord 8 = .ok (.isub, 1) := by decide +kernel
theorem dX8_isAtWord_9 : decode cX8_isAtWord 9 = .ok (.aload_n 1, 1) := by decide +kernel
theorem dX8_isAtWord_10 : decode cX8_isAtWord 10 = .ok (.invokevirtual 39, 3) := by decide +kernel
theorem dX8_isAtWord_13 : decode cX8_isAtWord 13 = .ok (.if_icmp .eq 5, 3) := by decide +kernel
theorem dX8_isAtWord_16 : decode cX8_isAtWord 16 = .ok (.iconst 0, 1) := by decide +kernel
theorem dX8_isAtWord_17 : decode cX8_isAtWord 17 = .ok (.ireturn, 1) := by decide +kernel
theorem dX8_isAtWord_18 : decode cX8_isAtWord 18 = .ok (.iconst 0, 1) := by decide +kernel
theorem dX8_isAtWord_19 : decode cX8_isAtWord 19 = .ok (.istore_n 2, 1) := by decide +kernel
theorem dX8_isAtWord_20 : decode cX8_isAtWord 20 = .ok (.iload_n 2, 1) := by decide +kernel
theorem dX8_isAtWord_21 : decode cX8_isAtWord 21 = .ok (.aload_n 1, 1) := by decide +kernel
theorem dX8_isAtWord_22 : decode cX8_isAtWord 22 = .ok (.invokevirtual 39, 3) := by decide +kernel
theorem dX8_isAtWord_25 : decode cX8_isAtWord 25 = .ok (.if_icmp .ge 29, 3) := by decide +kernel
theorem dX8_isAtWord_28 : decode cX8_isAtWord 28 = .ok (.aload_n 0, 1) := by decide +kernel
theorem dX8_isAtWord_29 : decode cX8_isAtWord 29 = .ok (.aload_n 0, 1) := by decide +kernel
theorem dX8_isAtWord_30 : decode cX8_isAtWord 30 = .ok (.getfield 19, 3) := by decide +kernel
theorem dX8_isAtWord_33 : decode cX8_isAtWord 33 = .ok (.iload_n 2, 1) := by decide +kernel
theorem dX8_isAtWord_34 : decode cX8_isAtWord 34 = .ok (.iadd, 1) := by decide +kernel
theorem dX8_isAtWord_35 : decode cX8_isAtWord 35 = .ok (.invokevirtual 28, 3) := by decide +kernel
theorem dX8_isAtWord_38 : decode cX8_isAtWord 38 = .ok (.aload_n 1, 1) := by decide +kernel
theorem dX8_isAtWord_39 : decode cX8_isAtWord 39 = .ok (.iload_n 2, 1) := by decide +kernel
theorem dX8_isAtWord_40 : decode cX8_isAtWord 40 = .ok (.invokevirtual 45, 3) := by decide +kernel
theorem dX8_isAtWord_43 : decode cX8_isAtWord 43 = .ok (.if_icmp .eq 5, 3) := by decide +kernel
theorem dX8_isAtWord_46 : decode cX8_isAtWord 46 = .ok (.iconst 0, 1) := by decide +kernel
theorem dX8_isAtWord_47 : decode cX8_isAtWord 47 = .ok (.ireturn, 1) := by decide +kernel
theorem dX8_isAtWord_48 : decode cX8_isAtWord 48 = .ok (.iinc 2 1, 3) := by decide +kernel
theorem dX8_isAtWord_51 : decode cX8_isAtWord 51 = .ok (.goto (-31), 3) := by decide +kernel
theorem dX8_isAtWord_54 : decode cX8_isAtWord 54 = .ok (.iconst 1, 1) := by decide +kernel
theorem dX8_isAtWord_55 : decode cX8_isAtWord 55 = .ok (.ireturn, 1) := by decide +kernel
theorem dX8_countTextNotes_0 : decode cX8_countTextNotes 0 = .ok (.aload_n 0, 1) := by decide +kernel
theorem dX8_countTextNotes_1 : decode cX8_countTextNotes 1 = .ok (.getfield 22, 3) := by decide +kernel
theorem dX8_countTextNotes_4 : decode cX8_countTextNotes 4 = .ok (.aload_n 0, 1) := by decide +kernel
theorem dX8_countTextNotes_5 : decode cX8_countTextNotes 5 = .ok (.getfield 19, 3) := by decide +kernel
theorem dX8_countTextNotes_8 : decode cX8_countTextNotes 8 = .ok (.isub, 1) := by decide +kernel
theorem dX8_countTextNotes_9 : decode cX8_countTextNotes 9 = .ok (.istore_n 1, 1) := by decide +kernel
theorem dX8_countTextNotes_10 : decode cX8_countTextNotes 10 = .ok (.iload_n 1, 1) := by decide +kernel
theorem dX8_countTextNotes_11 : decode cX8_countTextNotes 11 = .ok (.bipush 8, 2) := by decide +kernel
theorem dX8_countTextNotes_13 : decode cX8_countTextNotes 13 = .ok (.if_icmp .le 5, 3) := by decide +kernel
theorem dX8_countTextNotes_16 : decode cX8_countTextNotes 16 = .ok (.iconst 0, 1) := by decide +kernel
theorem dX8_countTextNotes_17 : decode cX8_countTextNotes 17 = .ok (.ireturn, 1) := by decide +kernel
theorem dX8_countTextNotes_18 : decode cX8_countTextNotes 18 = .ok (.iconst 0, 1) := by decide +kernel
theorem dX8_countTextNotes_19 : decode cX8_countTextNotes 19 = .ok (.istore_n 2, 1) := by decide +kernel
theorem dX8_countTextNotes_20 : decode cX8_countTextNotes 20 = .ok (.iload_n 2, 1) := by decide +kernel
theorem dX8_countTextNotes_21 : decode cX8_countTextNotes 21 = .ok (.iload_n 1, 1) := by decide +kernel
theorem dX8_countTextNotes_22 : decode cX8_countTextNotes 22 = .ok (.if_icmp .ge 23, 3) := by decide +kernel
theorem dX8_countTextNotes_25 : decode cX8_countTextNotes 25 = .ok (.aload_n 0, 1) := by decide +kernel
theorem dX8_countTextNotes_26 : decode cX8_countTextNotes 26 = .ok (.iload_n 2, 1) := by decide +kernel
theorem dX8_countTextNotes_27 : decode cX8_countTextNotes 27 = .ok (.invokevirtual 51, 3) := by decide +kernel
theorem dX8_countTextNotes_30 : decode cX8_countTextNotes 30 = .ok (.i2l, 1) := by decide +kernel
theorem dX8_countTextNotes_31 : decode cX8_countTextNotes 31 = .ok (.invokestatic 54, 3) := by decide +kernel
theorem dX8_countTextNotes_34 : decode cX8_countTextNotes 34 = .ok (.ifCond .ne 5, 3) := by decide +kernel
theorem dX8_countTextNotes_37 : decode cX8_countTextNotes 37 = .ok (.iconst 0, 1) := by decide +kernel
theorem dX8_countTextNotes_38 : decode cX8_countTextNotes 38 = .ok (.ireturn, 1) := by decide +kernel
theorem dX8_countTextNotes_39 : decode cX8_countTextNotes 39 = .ok (.iinc 2 1, 3) := by decide +kernel
theorem dX8_countTextNotes_42 : decode cX8_countTextNotes 42 = .ok (.goto (-22), 3) := by decide +kernel
theorem dX8_countTextNotes_45 : decode cX8_countTextNotes 45 = .ok (.iload_n 1, 1) := by decide +kernel
theorem dX8_countTextNotes_46 : decode cX8_countTextNotes 46 = .ok (.ireturn, 1) := by decide +kernel
theorem dX8_textNote_0 : decode cX8_textNote 0 = .ok (.aload_n 0, 1) := by decide +kernel
theorem dX8_textNote_1 : decode cX8_textNote 1 = .ok (.aload_n 0, 1) := by decide +kernel
theorem dX8_textNote_2 : decode cX8_textNote 2 = .ok (.getfield 19, 3) := by decide +kernel
theorem dX8_textNote_5 : decode cX8_textNote 5 = .ok (.iload_n 1, 1) := by decide +kernel
theorem dX8_textNote_6 : decode cX8_textNote 6 = .ok (.iadd, 1) := by decide +kernel
theorem dX8_textNote_7 : decode cX8_textNote 7 = .ok (.invokevirtual 28, 3) := by decide +kernel
theorem dX8_textNote_10 : decode cX8_textNote 10 = .ok (.bipush 97, 2) := by decide +kernel
theorem dX8_textNote_12 : decode cX8_textNote 12 = .ok (.isub, 1) := by decide +kernel
theorem dX8_textNote_13 : decode cX8_textNote 13 = .ok (.ireturn, 1) := by decide +kernel
theorem dX8_numberHere_0 : decode cX8_numberHere 0 = .ok (.aload_n 0, 1) := by decide +kernel
theorem dX8_numberHere_1 : decode cX8_numberHere 1 = .ok (.aload_n 0, 1) := by decide +kernel
theorem dX8_numberHere_2 : decode cX8_numberHere 2 = .ok (.getfield 19, 3) := by decide +kernel
theorem dX8_numberHere_5 : decode cX8_numberHere 5 = .ok (.invokevirtual 28, 3) := by decide +kernel
theorem dX8_numberHere_8 : decode cX8_numberHere 8 = .ok (.invokestatic 36, 3) := by decide +kernel
theorem dX8_numberHere_11 : decode cX8_numberHere 11 = .ok (.ifCond .eq 16, 3) := by decide +kernel
theorem dX8_numberHere_14 : decode cX8_numberHere 14 = .ok (.aload_n 0, 1) := by decide +kernel
theorem dX8_numberHere_15 : decode cX8_numberHere 15 = .ok (.getfield 22, 3) := by decide +kernel
theorem dX8_numberHere_18 : decode cX8_numberHere 18 = .ok (.aload_n 0, 1) := by decide +kernel
theorem dX8_numberHere_19 : decode cX8_numberHere 19 = .ok (.getfield 19, 3) := by decide +kernel
theorem dX8_numberHere_22 : decode cX8_numberHere 22 = .ok (.isub, 1) := by decide +kernel
theorem dX8_numberHere_23 : decode cX8_numberHere 23 = .ok (.iconst 4, 1) := by decide +kernel
theorem dX8_numberHere_24 : decode cX8_numberHere 24 = .ok (.if_icmp .le 5, 3) := by decide +kernel
theorem dX8_numberHere_27 : decode cX8_numberHere 27 = .ok (.iconst (-1), 1) := by decide +kernel
theorem dX8_numberHere_28 : decode cX8_numberHere 28 = .ok (.ireturn, 1) := by decide +kernel
theorem dX8_numberHere_29 : decode cX8_numberHere 29 = .ok (.iconst 0, 1) := by decide +kernel
theorem dX8_numberHere_30 : decode cX8_numberHere 30 = .ok (.istore_n 1, 1) := by decide +kernel
theorem dX8_numberHere_31 : decode cX8_numberHere 31 = .ok (.aload_n 0, 1) := by decide +kernel
theorem dX8_numberHere_32 : decode cX8_numberHere 32 = .ok (.getfield 19, 3) := by decide +kernel
theorem dX8_numberHere_35 : decode cX8_numberHere 35 = .ok (.istore_n 2, 1) := by decide +kernel
theorem dX8_numberHere_36 : decode cX8_numberHere 36 = .ok (.iload_n 2, 1) := by decide +kernel
theorem dX8_numberHere_37 : decode cX8_numberHere 37 = .ok (.aload_n 0, 1) := by decide +kernel
theorem dX8_numberHere_38 : decode cX8_numberHere 38 = .ok (.getfield 22, 3) := by decide +kernel
theorem dX8_numberHere_41 : decode cX8_numberHere 41 = .ok (.if_icmp .ge 23, 3) := by decide +kernel
theorem dX8_numberHere_44 : decode cX8_numberHere 44 = .ok (.bipush 10, 2) := by decide +kernel
theorem dX8_numberHere_46 : decode cX8_numberHere 46 = .ok (.iload_n 1, 1) := by decide +kernel
theorem dX8_numberHere_47 : decode cX8_numberHere 47 = .ok (.imul, 1) := by decide +kernel
theorem dX8_numberHere_48 : decode cX8_numberHere 48 = .ok (.aload_n 0, 1) := by decide +kernel
theorem dX8_numberHere_49 : decode cX8_numberHere 49 = .ok (.iload_n 2, 1) := by decide +kernel
theorem dX8_numberHere_50 : decode cX8_numberHere 50 = .ok (.invokevirtual 28, 3) := by decide +kernel
theorem dX8_numberHere_53 : decode cX8_numberHere 53 = .ok (.iadd, 1) := by decide +kernel
theorem dX8_numberHere_54 : decode cX8_numberHere 54 = .ok (.bipush 48, 2) := by decide +kernel
theorem dX8_numberHere_56 : decode cX8_numberHere 56 = .ok (.isub, 1) := by decide +kernel
theorem dX8_numberHere_57 : decode cX8_numberHere 57 = .ok (.istore_n 1, 1) := by decide +kernel
theorem dX8_numberHere_58 : decode cX8_numberHere 58 = .ok (.iinc 2 1, 3) := by decide +kernel
theorem dX8_numberHere_61 : decode cX8_numberHere 61 = .ok (.goto (-25), 3) := by decide +kernel
theorem dX8_numberHere_64 : decode cX8_numberHere 64 = .ok (.iload_n 1, 1) := by decide +kernel
theorem dX8_numberHere_65 : decode cX8_numberHere 65 = .ok (.ireturn, 1) := by decide +kernel
theorem dX9_init_0 : decode cX9_init 0 = .ok (.aload_n 0, 1) := by decide +kernel
theorem dX9_init_1 : decode cX9_init 1 = .ok (.invokespecial 1, 3) := by decide +kernel
theorem dX9_init_4 : decode cX9_init 4 = .ok (.aload_n 0, 1) := by decide +kernel
theorem dX9_init_5 : decode cX9_init 5 = .ok (.new 7, 3) := by decide +kernel
theorem dX9_init_8 : decode cX9_init 8 = .ok (.dup, 1) := by decide +kernel
theorem dX9_init_9 : decode cX9_init 9 = .ok (.invokespecial 9, 3) := by decide +kernel
theorem dX9_init_12 : decode cX9_init 12 = .ok (.putfield 10, 3) := by decide +kernel
theorem dX9_init_15 : decode cX9_init 15 = .ok (.aload_n 0, 1) := by decide +kernel
theorem dX9_init_16 : decode cX9_init 16 = .ok (.new 7, 3) := by decide +kernel
theorem dX9_init_19 : decode cX9_init 19 = .ok (.dup, 1) := by decide +kernel
theorem dX9_init_20 : decode cX9_init 20 = .ok (.invokespecial 9, 3) := by decide +kernel
theorem dX9_init_23 : decode cX9_init 23 = .ok (.putfield 16, 3) := by decide +kernel
theorem dX9_init_26 : decode cX9_init 26 = .ok (.aload_n 0, 1) := by decide +kernel
theorem dX9_init_27 : decode cX9_init 27 = .ok (.new 7, 3) := by decide +kernel
theorem dX9_init_30 : decode cX9_init 30 = .ok (.dup, 1) := by decide +kernel
theorem dX9_init_31 : decode cX9_init 31 = .ok (.invokespecial 9, 3) := by decide +kernel
theorem dX9_init_34 : decode cX9_init 34 = .ok (.putfield 19, 3) := by decide +kernel
theorem dX9_init_37 : decode cX9_init 37 = .ok (.aload_n 0, 1) := by decide +kernel
theorem dX9_init_38 : decode cX9_init 38 = .ok (.iconst 0, 1) := by decide +kernel
theorem dX9_init_39 : decode cX9_init 39 = .ok (.putfield 22, 3) := by decide +kernel
theorem dX9_init_42 : decode cX9_init 42 = .ok (.aload_n 0, 1) := by decide +kernel
theorem dX9_init_43 : decode cX9_init 43 = .ok (.bipush 8, 2) := by decide +kernel
theorem dX9_init_45 : decode cX9_init 45 = .ok (.anewarray 26, 3) := by decide +kernel
theorem dX9_init_48 : decode cX9_init 48 = .ok (.putfield 28, 3) := by decide +kernel
theorem dX9_init_51 : decode cX9_init 51 = .ok (.iconst 0, 1) := by decide +kernel
theorem dX9_init_52 : decode cX9_init 52 = .ok (.istore_n 1, 1) := by decide +kernel
theorem dX9_init_53 : decode cX9_init 53 = .ok (.iload_n 1, 1) := by decide +kernel
theorem dX9_init_54 : decode cX9_init 54 = .ok (.bipush 8, 2) := by decide +kernel
theorem dX9_init_56 : decode cX9_init 56 = .ok (.if_icmp .ge 22, 3) := by decide +kernel
theorem dX9_init_59 : decode cX9_init 59 = .ok (.aload_n 0, 1) := by decide +kernel
theorem dX9_init_60 : decode cX9_init 60 = .ok (.getfield 28, 3) := by decide +kernel
theorem dX9_init_63 : decode cX9_init 63 = .ok (.iload_n 1, 1) := by decide +kernel
theorem dX9_init_64 : decode cX9_init 64 = .ok (.new 26, 3) := by decide +kernel
theorem dX9_init_67 : decode cX9_init 67 = .ok (.dup, 1) := by decide +kernel
theorem dX9_init_68 : decode cX9_init 68 = .ok (.invokespecial 32, 3) := by decide +kernel
theorem dX9_init_71 : decode cX9_init 71 = .ok (.aastore, 1) := by decide +kernel
theorem dX9_init_72 : decode cX9_init 72 = .ok (.iinc 1 1, 3) := by decide +kernel
theorem dX9_init_75 : decode cX9_init 75 = .ok (.goto (-22), 3) := by decide +kernel
theorem dX9_init_78 : decode cX9_init 78 = .ok (.aload_n 0, 1) := by decide +kernel
theorem dX9_init_79 : decode cX9_init 79 = .ok (.new 33, 3) := by decide +kernel
theorem dX9_init_82 : decode cX9_init 82 = .ok (.dup, 1) := by decide +kernel
theorem dX9_init_83 : decode cX9_init 83 = .ok (.invokespecial 35, 3) := by decide +kernel
theorem dX9_init_86 : decode cX9_init 86 = .ok (.putfield 36, 3) := by decide +kernel
theorem dX9_init_89 : decode cX9_init 89 = .ok (.aload_n 0, 1) := by decide +kernel
theorem dX9_init_90 : decode cX9_init 90 = .ok (.new 40, 3) := by decide +kernel
theorem dX9_init_93 : decode cX9_init 93 = .ok (.dup, 1) := by decide +kernel
theorem dX9_init_94 : decode cX9_init 94 = .ok (.invokespecial 42, 3) := by decide +kernel
theorem dX9_init_97 : decode cX9_init 97 = .ok (.putfield 43, 3) := by decide +kernel
theorem dX9_init_100 : decode cX9_init 100 = .ok (.aload_n 0, 1) := by decide +kernel
theorem dX9_init_101 : decode cX9_init 101 = .ok (.new 47, 3) := by decide +kernel
theorem dX9_init_104 : decode cX9_init 104 = .ok (.dup, 1) := by decide +kernel
theorem dX9_init_105 : decode cX9_init 105 = .ok (.invokespecial 49, 3) := by decide +kernel
theorem dX9_init_108 : decode cX9_init 108 = .ok (.putfield 50, 3) := by decide +kernel
theorem dX9_init_111 : decode cX9_init 111 = .ok (.aload_n 0, 1) := by decide +kernel
theorem dX9_init_112 : decode cX9_init 112 = .ok (.new 54, 3) := by decide +kernel
theorem dX9_init_115 : decode cX9_init 115 = .ok (.dup, 1) := by decide +kernel
theorem dX9_init_116 : decode cX9_init 116 = .ok (.invokespecial 56, 3) := by decide +kernel
theorem dX9_init_119 : decode cX9_init 119 = .ok (.putfield 57, 3) := by decide +kernel
theorem dX9_init_122 : decode cX9_init 122 = .ok (.aload_n 0, 1) := by decide +kernel
theorem dX9_init_123 : decode cX9_init 123 = .ok (.iconst 5, 1) := by decide +kernel
theorem dX9_init_124 : decode cX9_init 124 = .ok (.newarray .int, 2) := by decide +kernel
theorem dX9_init_126 : decode cX9_init 126 = .ok (.putfield 61, 3) := by decide +kernel
theorem dX9_init_129 : decode cX9_init 129 = .ok (.return_, 1) := by decide +kernel
theorem dX9_row_0 : decode cX9_row 0 = .ok (.aload_n 0, 1) := by decide +kernel
theorem dX9_row_1 : decode cX9_row 1 = .ok (.iload_n 1, 1) := by decide +kernel
theorem dX9_row_2 : decode cX9_row 2 = .ok (.invokevirtual 65, 3) := by decide +kernel
theorem dX9_row_5 : decode cX9_row 5 = .ok (.astore 4, 2) := by decide +kernel
theorem dX9_row_7 : decode cX9_row 7 = .ok (.aload 4, 2) := by decide +kernel
theorem dX9_row_9 : decode cX9_row 9 = .ok (.ifnull 22, 3) := by decide +kernel
theorem dX9_row_12 : decode cX9_row 12 = .ok (.iload_n 2, 1) := by decide +kernel
theorem dX9_row_13 : decode cX9_row 13 = .ok (.ifCond .lt 18, 3) := by decide +kernel
theorem dX9_row_16 : decode cX9_row 16 = .ok (.iload_n 2, 1) := by decide +kernel
theorem dX9_row_17 : decode cX9_row 17 = .ok (.iconst 5, 1) := by decide +kernel
theorem dX9_row_18 : decode cX9_row 18 = .ok (.if_icmp .ge 13, 3) := by decide +kernel
theorem dX9_row_21 : decode cX9_row 21 = .ok (.iload_n 3, 1) := by decide +kernel
theorem dX9_row_22 : decode cX9_row 22 = .ok (.ifCond .lt 9, 3) := by decide +kernel
theorem dX9_row_25 : decode cX9_row 25 = .ok (.iload_n 3, 1) := by decide +kernel
theorem dX9_row_26 : decode cX9_row 26 = .ok (.bipush 40, 2) := by decide +kernel
theorem dX9_row_28 : decode cX9_row 28 = .ok (.if_icmp .le 10, 3) := by decide +kernel
theorem dX9_row_31 : decode cX9_row 31 = .ok (.aload_n 0, 1) := by decide +kernel
theorem dX9_row_32 : decode cX9_row 32 = .ok (.bipush (-2), 2) := by decide +kernel
theorem dX9_row_34 : decode cX9_row 34 = .ok (.invokevirtual 69, 3) := by decide +kernel
theorem dX9_row_37 : decode cX9_row 37 = .ok (.ireturn, 1) := by decide +kernel
theorem dX9_row_38 : decode cX9_row 38 = .ok (.aload 4, 2) := by decide +kernel
theorem dX9_row_40 : decode cX9_row 40 = .ok (.iload_n 2, 1) := by decide +kernel
theorem dX9_row_41 : decode cX9_row 41 = .ok (.iload_n 3, 1) := by decide +kernel
theorem dX9_row_42 : decode cX9_row 42 = .ok (.invokevirtual 73, 3) := by decide +kernel
theorem dX9_row_45 : decode cX9_row 45 = .ok (.iconst 1, 1) := by decide +kernel
theorem dX9_row_46 : decode cX9_row 46 = .ok (.ireturn, 1) := by decide +kernel
theorem dX9_set_0 : decode cX9_set 0 = .ok (.aload_n 0, 1) := by decide +kernel
theorem dX9_set_1 : decode cX9_set 1 = .ok (.iload_n 1, 1) := by decide +kernel
theorem dX9_set_2 : decode cX9_set 2 = .ok (.invokevirtual 65, 3) := by decide +kernel
theorem dX9_set_5 : decode cX9_set 5 = .ok (.astore 5, 2) := by decide +kernel
theorem dX9_set_7 : decode cX9_set 7 = .ok (.aload 5, 2) := by decide +kernel
theorem dX9_set_9 : decode cX9_set 9 = .ok (.ifnonnull 10, 3) := by decide +kernel
theorem dX9_set_12 : decode cX9_set 12 = .ok (.aload_n 0, 1) := by decide +kernel
theorem dX9_set_13 : decode cX9_set 13 = .ok (.bipush (-2), 2) := by decide +kernel
theorem dX9_set_15 : decode cX9_set 15 = .ok (.invokevirtual 69, 3) := by decide +kernel
theorem dX9_set_18 : decode cX9_set 18 = .ok (.ireturn, 1) := by decide +kernel
theorem dX9_set_19 : decode cX9_set 19 = .ok (.aload 5, 2) := by decide +kernel
theorem dX9_set_21 : decode cX9_set 21 = .ok (.invokevirtual 77, 3) := by decide +kernel
theorem dX9_set_24 : decode cX9_set 24 = .ok (.istore 6, 2) := by decide +kernel
theorem dX9_set_26 : decode cX9_set 26 = .ok (.iload 6, 2) := by decide +kernel
theorem dX9_set_28 : decode cX9_set 28 = .ok (.ifCond .eq 10, 3) := by decide +kernel
theorem dX9_set_31 : decode cX9_set 31 = .ok (.aload_n 0, 1) := by decide +kernel
theorem dX9_set_32 : decode cX9_set 32 = .ok (.iload 6, 2) := by decide +kernel
theorem dX9_set_34 : decode cX9_set 34 = .ok (.invokevirtual 69, 3) := by decide +kernel
theorem dX9_set_37 : decode cX9_set 37 = .ok (.ireturn, 1) := by decide +kernel
theorem dX9_set_38 : decode cX9_set 38 = .ok (.aload 5, 2) := by decide +kernel
theorem dX9_set_40 : decode cX9_set 40 = .ok (.iload_n 2, 1) := by decide +kernel
theorem dX9_set_41 : decode cX9_set 41 = .ok (.iconst 1, 1) := by decide +kernel
theorem dX9_set_42 : decode cX9_set 42 = .ok (.invokevirtual 81, 3) := by decide +kernel
theorem dX9_set_45 : decode cX9_set 45 = .ok (.ifCond .ne 10, 3) := by decide +kernel
theorem dX9_set_48 : decode cX9_set 48 = .ok (.aload_n 0, 1) := by decide +kernel
theorem dX9_set_49 : decode cX9_set 49 = .ok (.bipush (-2), 2) := by decide +kernel
theorem dX9_set_51 : decode cX9_set 51 = .ok (.invokevirtual 69, 3) := by decide +kernel
theorem dX9_set_54 : decode cX9_set 54 = .ok (.ireturn, 1) := by decide +kernel
theorem dX9_set_55 : decode cX9_set 55 = .ok (.aload 5, 2) := by decide +kernel
theorem dX9_set_57 : decode cX9_set 57 = .ok (.iload_n 2, 1) := by decide +kernel
theorem dX9_set_58 : decode cX9_set 58 = .ok (.lload_n 3, 1) := by decide +kernel
theorem dX9_set_59 : decode cX9_set 59 = .ok (.invokevirtual 85, 3) := by decide +kernel
theorem dX9_set_62 : decode cX9_set 62 = .ok (.iconst 1, 1) := by decide +kernel
theorem dX9_set_63 : decode cX9_set 63 = .ok (.ireturn, 1) := by decide +kernel
theorem dX9_copy_0 : decode cX9_copy 0 = .ok (.aload_n 0, 1) := by decide +kernel
theorem dX9_copy_1 : decode cX9_copy 1 = .ok (.iload_n 1, 1) := by decide +kernel
theorem dX9_copy_2 : decode cX9_copy 2 = .ok (.invokevirtual 65, 3) := by decide +kernel
theorem dX9_copy_5 : decode cX9_copy 5 = .ok (.astore 6, 2) := by decide +kernel
theorem dX9_copy_7 : decode cX9_copy 7 = .ok (.aload_n 0, 1) := by decide +kernel
theorem dX9_copy_8 : decode cX9_copy 8 = .ok (.iload_n 2, 1) := by decide +kernel
theorem dX9_copy_9 : decode cX9_copy 9 = .ok (.invokevirtual 65, 3) := by decide +kernel
theorem dX9_copy_12 : decode cX9_copy 12 = .ok (.astore 7, 2) := by decide +kernel
theorem dX9_copy_14 : decode cX9_copy 14 = .ok (.aload 6, 2) := by decide +kernel
theorem dX9_copy_16 : decode cX9_copy 16 = .ok (.ifnull 8, 3) := by decide +kernel
theorem dX9_copy_19 : decode cX9_copy 19 = .ok (.aload 7, 2) := by decide +kernel
theorem dX9_copy_21 : decode cX9_copy 21 = .ok (.ifnonnull 10, 3) := by decide +kernel
theorem dX9_copy_24 : decode cX9_copy 24 = .ok (.aload_n 0, 1) := by decide +kernel
theorem dX9_copy_25 : decode cX9_copy 25 = .ok (.bipush (-2), 2) := by decide +kernel
theorem dX9_copy_27 : decode cX9_copy 27 = .ok (.invokevirtual 69, 3) := by decide +kernel
theorem dX9_copy_30 : decode cX9_copy 30 = .ok (.ireturn, 1) := by decide +kernel
theorem dX9_copy_31 : decode cX9_copy 31 = .ok (.aload 6, 2) := by decide +kernel
theorem dX9_copy_33 : decode cX9_copy 33 = .ok (.invokevirtual 89, 3) := by decide +kernel
theorem dX9_copy_36 : decode cX9_copy 36 = .ok (.ifCond .ne 11, 3) := by decide +kernel
theorem dX9_copy_39 : decode cX9_copy 39 = .ok (.aload 7, 2) := by decide +kernel
theorem dX9_copy_41 : decode cX9_copy 41 = .ok (.invokevirtual 89, 3) := by decide +kernel
theorem dX9_copy_44 : decode cX9_copy 44 = .ok (.ifCond .eq 10, 3) := by decide +kernel
theorem dX9_copy_47 : decode cX9_copy 47 = .ok (.aload_n 0, 1) := by decide +kernel
theorem dX9_copy_48 : decode cX9_copy 48 = .ok (.bipush (-3), 2) := by decide +kernel
theorem dX9_copy_50 : decode cX9_copy 50 = .ok (.invokevirtual 69, 3) := by decide +kernel
theorem dX9_copy_53 : decode cX9_copy 53 = .ok (.ireturn, 1) := by decide +kernel
theorem dX9_copy_54 : decode cX9_copy 54 = .ok (.aload 6, 2) := by decide +kernel
theorem dX9_copy_56 : decode cX9_copy 56 = .ok (.invokevirtual 93, 3) := by decide +kernel
theorem dX9_copy_59 : decode cX9_copy 59 = .ok (.ifCond .eq 31, 3) := by decide +kernel
theorem dX9_copy_62 : decode cX9_copy 62 = .ok (.aload 7, 2) := by decide +kernel
theorem dX9_copy_64 : decode cX9_copy 64 = .ok (.invokevirtual 93, 3) := by decide +kernel
theorem dX9_copy_67 : decode cX9_copy 67 = .ok (.ifCond .eq 23, 3) := by decide +kernel
theorem dX9_copy_70 : decode cX9_copy 70 = .ok (.aload 6, 2) := by decide +kernel
theorem dX9_copy_72 : decode cX9_copy 72 = .ok (.getfield 96, 3) := by decide +kernel
theorem dX9_copy_75 : decode cX9_copy 75 = .ok (.aload 7, 2) := by decide +kernel
theorem dX9_copy_77 : decode cX9_copy 77 = .ok (.getfield 96, 3) := by decide +kernel
theorem dX9_copy_80 : decode cX9_copy 80 = .ok (.if_icmp .eq 10, 3) := by decide +kernel
theorem dX9_copy_83 : decode cX9_copy 83 = .ok (.aload_n 0, 1) := by decide +kernel
theorem dX9_copy_84 : decode cX9_copy 84 = .ok (.bipush (-3), 2) := by decide +kernel
theorem dX9_copy_86 : decode cX9_copy 86 = .ok (.invokevirtual 69, 3) := by decide +kernel
theorem dX9_copy_89 : decode cX9_copy 89 = .ok (.ireturn, 1) := by decide +kernel
theorem dX9_copy_90 : decode cX9_copy 90 = .ok (.aload 6, 2) := by decide +kernel
theorem dX9_copy_92 : decode cX9_copy 92 = .ok (.invokevirtual 93, 3) := by decide +kernel
theorem dX9_copy_95 : decode cX9_copy 95 = .ok (.ifCond .eq 11, 3) := by decide +kernel
theorem dX9_copy_98 : decode cX9_copy 98 = .ok (.aload 7, 2) := by decide +kernel
theorem dX9_copy_100 : decode cX9_copy 100 = .ok (.invokevirtual 93, 3) := by decide +kernel
theorem dX9_copy_103 : decode cX9_copy 103 = .ok (.ifCond .ne 10, 3) := by decide +kernel
theorem dX9_copy_106 : decode cX9_copy 106 = .ok (.aload_n 0, 1) := by decide +kernel
theorem dX9_copy_107 : decode cX9_copy 107 = .ok (.bipush (-4), 2) := by decide +kernel
theorem dX9_copy_109 : decode cX9_copy 109 = .ok (.invokevirtual 69, 3) := by decide +kernel
theorem dX9_copy_112 : decode cX9_copy 112 = .ok (.ireturn, 1) := by decide +kernel
theorem dX9_copy_113 : decode cX9_copy 113 = .ok (.aload 6, 2) := by decide +kernel
theorem dX9_copy_115 : decode cX9_copy 115 = .ok (.iload_n 3, 1) := by decide +kernel
theorem dX9_copy_116 : decode cX9_copy 116 = .ok (.iload 5, 2) := by decide +kernel
theorem dX9_copy_118 : decode cX9_copy 118 = .ok (.invokevirtual 81, 3) := by decide +kernel
theorem dX9_copy_121 : decode cX9_copy 121 = .ok (.ifCond .eq 15, 3) := by decide +kernel
theorem dX9_copy_124 : decode cX9_copy 124 = .ok (.aload 7, 2) := by decide +kernel
theorem dX9_copy_126 : decode cX9_copy 126 = .ok (.iload 4, 2) := by decide +kernel
theorem dX9_copy_128 : decode cX9_copy 128 = .ok (.iload 5, 2) := by decide +kernel
theorem dX9_copy_130 : decode cX9_copy 130 = .ok (.invokevirtual 81, 3) := by decide +kernel
theorem dX9_copy_133 : decode cX9_copy 133 = .ok (.ifCond .ne 10, 3) := by decide +kernel
theorem dX9_copy_136 : decode cX9_copy 136 = .ok (.aload_n 0, 1) := by decide +kernel
theorem dX9_copy_137 : decode cX9_copy 137 = .ok (.bipush (-2), 2) := by decide +kernel
theorem dX9_copy_139 : decode cX9_copy 139 = .ok (.invokevirtual 69, 3) := by decide +kernel
theorem dX9_copy_142 : decode cX9_copy 142 = .ok (.ireturn, 1) := by decide +kernel
theorem dX9_copy_143 : decode cX9_copy 143 = .ok (.aload 7, 2) := by decide +kernel
theorem dX9_copy_145 : decode cX9_copy 145 = .ok (.aload 6, 2) := by decide +kernel
theorem dX9_copy_147 : decode cX9_copy 147 = .ok (.iload_n 3, 1) := by decide +kernel
theorem dX9_copy_148 : decode cX9_copy 148 = .ok (.iload 4, 2) := by decide +kernel
theorem dX9_copy_150 : decode cX9_copy 150 = .ok (.iload 5, 2) := by decide +kernel
theorem dX9_copy_152 : decode cX9_copy 152 = .ok (.invokevirtual 100, 3) := by decide +kernel
theorem dX9_copy_155 : decode cX9_copy 155 = .ok (.iload 5, 2) := by decide +kernel
theorem dX9_copy_157 : decode cX9_copy 157 = .ok (.ireturn, 1) := by decide +kernel
theorem dX9_element_0 : decode cX9_element 0 = .ok (.aload_n 0, 1) := by decide +kernel
theorem dX9_element_1 : decode cX9_element 1 = .ok (.iload_n 1, 1) := by decide +kernel
theorem dX9_element_2 : decode cX9_element 2 = .ok (.invokevirtual 65, 3) := by decide +kernel
theorem dX9_element_5 : decode cX9_element 5 = .ok (.astore_n 3, 1) := by decide +kernel
theorem dX9_element_6 : decode cX9_element 6 = .ok (.aload_n 3, 1) := by decide +kernel
theorem dX9_element_7 : decode cX9_element 7 = .ok (.ifnonnull 7, 3) := by decide +kernel
theorem dX9_element_10 : decode cX9_element 10 = .ok (.lconst 0, 1) := by decide +kernel
theorem dX9_element_11 : decode cX9_element 11 = .ok (.goto 8, 3) := by decide +kernel
theorem dX9_element_14 : decode cX9_element 14 = .ok (.aload_n 3, 1) := by decide +kernel
theorem dX9_element_15 : decode cX9_element 15 = .ok (.iload_n 2, 1) := by decide +kernel
theorem dX9_element_16 : decode cX9_element 16 = .ok (.invokevirtual 104, 3) := by decide +kernel
theorem dX9_element_19 : decode cX9_element 19 = .ok (.lreturn, 1) := by decide +kernel
theorem dX9_holds_0 : decode cX9_holds 0 = .ok (.aload_n 0, 1) := by decide +kernel
theorem dX9_holds_1 : decode cX9_holds 1 = .ok (.iload_n 1, 1) := by decide +kernel
theorem dX9_holds_2 : decode cX9_holds 2 = .ok (.invokevirtual 65, 3) := by decide +kernel
theorem dX9_holds_5 : decode cX9_holds 5 = .ok (.astore_n 2, 1) := by decide +kernel
theorem dX9_holds_6 : decode cX9_holds 6 = .ok (.aload_n 2, 1) := by decide +kernel
theorem dX9_holds_7 : decode cX9_holds 7 = .ok (.ifnonnull 7, 3) := by decide +kernel
theorem dX9_holds_10 : decode cX9_holds 10 = .ok (.iconst (-1), 1) := by decide +kernel
theorem dX9_holds_11 : decode cX9_holds 11 = .ok (.goto 7, 3) := by decide +kernel
theorem dX9_holds_14 : decode cX9_holds 14 = .ok (.aload_n 2, 1) := by decide +kernel
theorem dX9_holds_15 : decode cX9_holds 15 = .ok (.getfield 96, 3) := by decide +kernel
theorem dX9_holds_18 : decode cX9_holds 18 = .ok (.ireturn, 1) := by decide +kernel
theorem dX9_show_0 : decode cX9_show 0 = .ok (.aload_n 0, 1) := by decide +kernel
theorem dX9_show_1 : decode cX9_show 1 = .ok (.iload_n 1, 1) := by decide +kernel
theorem dX9_show_2 : decode cX9_show 2 = .ok (.invokevirtual 65, 3) := by decide +kernel
theorem dX9_show_5 : decode cX9_show 5 = .ok (.astore_n 3, 1) := by decide +kernel
theorem dX9_show_6 : decode cX9_show 6 = .ok (.aload_n 3, 1) := by decide +kernel
theorem dX9_show_7 : decode cX9_show 7 = .ok (.ifnull 19, 3) := by decide +kernel
theorem dX9_show_10 : decode cX9_show 10 = .ok (.iload_n 2, 1) := by decide +kernel
theorem dX9_show_11 : decode cX9_show 11 = .ok (.iconst (-1), 1) := by decide +kernel
theorem dX9_show_12 : decode cX9_show 12 = .ok (.if_icmp .eq 21, 3) := by decide +kernel
theorem dX9_show_15 : decode cX9_show 15 = .ok (.aload_n 0, 1) := by decide +kernel
theorem dX9_show_16 : decode cX9_show 16 = .ok (.getfield 10, 3) := by decide +kernel
theorem dX9_show_19 : decode cX9_show 19 = .ok (.iload_n 2, 1) := by decide +kernel
theorem dX9_show_20 : decode cX9_show 20 = .ok (.invokevirtual 108, 3) := by decide +kernel
theorem dX9_show_23 : decode cX9_show 23 = .ok (.ifCond .ne 10, 3) := by decide +kernel
theorem dX9_show_26 : decode cX9_show 26 = .ok (.aload_n 0, 1) := by decide +kernel
theorem dX9_show_27 : decode cX9_show 27 = .ok (.bipush (-2), 2) := by decide +kernel
theorem dX9_show_29 : decode cX9_show 29 = .ok (.invokevirtual 69, 3) := by decide +kernel
theorem dX9_show_32 : decode cX9_show 32 = .ok (.ireturn, 1) := by decide +kernel
theorem dX9_show_33 : decode cX9_show 33 = .ok (.iload_n 2, 1) := by decide +kernel
theorem dX9_show_34 : decode cX9_show 34 = .ok (.iconst (-1), 1) := by decide +kernel
theorem dX9_show_35 : decode cX9_show 35 = .ok (.if_icmp .ne 10, 3) := by decide +kernel
theorem dX9_show_38 : decode cX9_show 38 = .ok (.aload_n 3, 1) := by decide +kernel
theorem dX9_show_39 : decode cX9_show 39 = .ok (.invokevirtual 112, 3) := by decide +kernel
theorem dX9_show_42 : decode cX9_show 42 = .ok (.goto 8, 3) := by decide +kernel
theorem dX9_show_45 : decode cX9_show 45 = .ok (.aload_n 3, 1) := by decide +kernel
theorem dX9_show_46 : decode cX9_show 46 = .ok (.iload_n 2, 1) := by decide +kernel
theorem dX9_show_47 : decode cX9_show 47 = .ok (.invokevirtual 115, 3) := by decide +kernel
theorem dX9_show_50 : decode cX9_show 50 = .ok (.iconst 1, 1) := by decide +kernel
theorem dX9_show_51 : decode cX9_show 51 = .ok (.ireturn, 1) := by decide +kernel
theorem dX9_says_0 : decode cX9_says 0 = .ok (.aload_n 0, 1) := by decide +kernel
theorem dX9_says_1 : decode cX9_says 1 = .ok (.iload_n 1, 1) := by decide +kernel
theorem dX9_says_2 : decode cX9_says 2 = .ok (.invokevirtual 65, 3) := by decide +kernel
theorem dX9_says_5 : decode cX9_says 5 = .ok (.astore_n 3, 1) := by decide +kernel
theorem dX9_says_6 : decode cX9_says 6 = .ok (.aload_n 3, 1) := by decide +kernel
theorem dX9_says_7 : decode cX9_says 7 = .ok (.ifnull 10, 3) := by decide +kernel
theorem dX9_says_10 : decode cX9_says 10 = .ok (.iload_n 2, 1) := by decide +kernel
theorem dX9_says_11 : decode cX9_says 11 = .ok (.invokestatic 119, 3) := by decide +kernel
theorem dX9_says_14 : decode cX9_says 14 = .ok (.ifCond .ne 10, 3) := by decide +kernel
theorem dX9_says_17 : decode cX9_says 17 = .ok (.aload_n 0, 1) := by decide +kernel
theorem dX9_says_18 : decode cX9_says 18 = .ok (.bipush (-2), 2) := by decide +kernel
theorem dX9_says_20 : decode cX9_says 20 = .ok (.invokevirtual 69, 3) := by decide +kernel
theorem dX9_says_23 : decode cX9_says 23 = .ok (.ireturn, 1) := by decide +kernel
theorem dX9_says_24 : decode cX9_says 24 = .ok (.aload_n 3, 1) := by decide +kernel
theorem dX9_says_25 : decode cX9_says 25 = .ok (.invokevirtual 93, 3) := by decide +kernel
theorem dX9_says_28 : decode cX9_says 28 = .ok (.ifCond .eq 10, 3) := by decide +kernel
theorem dX9_says_31 : decode cX9_says 31 = .ok (.aload_n 0, 1) := by decide +kernel
theorem dX9_says_32 : decode cX9_says 32 = .ok (.bipush (-3), 2) := by decide +kernel
theorem dX9_says_34 : decode cX9_says 34 = .ok (.invokevirtual 69, 3) := by decide +kernel
theorem dX9_says_37 : decode cX9_says 37 = .ok (.ireturn, 1) := by decide +kernel
theorem dX9_says_38 : decode cX9_says 38 = .ok (.aload_n 3, 1) := by decide +kernel
theorem dX9_says_39 : decode cX9_says 39 = .ok (.invokevirtual 89, 3) := by decide +kernel
theorem dX9_says_42 : decode cX9_says 42 = .ok (.ifCond .ne 10, 3) := by decide +kernel
theorem dX9_says_45 : decode cX9_says 45 = .ok (.aload_n 0, 1) := by decide +kernel
theorem dX9_says_46 : decode cX9_says 46 = .ok (.bipush (-4), 2) := by decide +kernel
theorem dX9_says_48 : decode cX9_says 48 = .ok (.invokevirtual 69, 3) := by decide +kernel
theorem dX9_says_51 : decode cX9_says 51 = .ok (.ireturn, 1) := by decide +kernel
theorem dX9_says_52 : decode cX9_says 52 = .ok (.aload_n 0, 1) := by decide +kernel
theorem dX9_says_53 : decode cX9_says 53 = .ok (.getfield 10, 3) := by decide +kernel
theorem dX9_says_56 : decode cX9_says 56 = .ok (.aload_n 3, 1) := by decide +kernel
theorem dX9_says_57 : decode cX9_says 57 = .ok (.invokevirtual 124, 3) := by decide +kernel
theorem dX9_says_60 : decode cX9_says 60 = .ok (.invokevirtual 127, 3) := by decide +kernel
theorem dX9_says_63 : decode cX9_says 63 = .ok (.istore 4, 2) := by decide +kernel
theorem dX9_says_65 : decode cX9_says 65 = .ok (.iload 4, 2) := by decide +kernel
theorem dX9_says_67 : decode cX9_says 67 = .ok (.iload_n 2, 1) := by decide +kernel
theorem dX9_says_68 : decode cX9_says 68 = .ok (.invokestatic 130, 3) := by decide +kernel
theorem dX9_says_71 : decode cX9_says 71 = .ok (.ifCond .ne 10, 3) := by decide +kernel
theorem dX9_says_74 : decode cX9_says 74 = .ok (.aload_n 0, 1) := by decide +kernel
theorem dX9_says_75 : decode cX9_says 75 = .ok (.bipush (-3), 2) := by decide +kernel
theorem dX9_says_77 : decode cX9_says 77 = .ok (.invokevirtual 69, 3) := by decide +kernel
theorem dX9_says_80 : decode cX9_says 80 = .ok (.ireturn, 1) := by decide +kernel
theorem dX9_says_81 : decode cX9_says 81 = .ok (.iload 4, 2) := by decide +kernel
theorem dX9_says_83 : decode cX9_says 83 = .ok (.aload_n 0, 1) := by decide +kernel
theorem dX9_says_84 : decode cX9_says 84 = .ok (.getfield 10, 3) := by decide +kernel
theorem dX9_says_87 : decode cX9_says 87 = .ok (.aload_n 3, 1) := by decide +kernel
theorem dX9_says_88 : decode cX9_says 88 = .ok (.invokevirtual 124, 3) := by decide +kernel
theorem dX9_says_91 : decode cX9_says 91 = .ok (.invokevirtual 133, 3) := by decide +kernel
theorem dX9_says_94 : decode cX9_says 94 = .ok (.iload_n 2, 1) := by decide +kernel
theorem dX9_says_95 : decode cX9_says 95 = .ok (.invokestatic 136, 3) := by decide +kernel
theorem dX9_says_98 : decode cX9_says 98 = .ok (.ireturn, 1) := by decide +kernel
theorem dX9_call_0 : decode cX9_call 0 = .ok (.aload_n 0, 1) := by decide +kernel
theorem dX9_call_1 : decode cX9_call 1 = .ok (.iload_n 1, 1) := by decide +kernel
theorem dX9_call_2 : decode cX9_call 2 = .ok (.invokevirtual 65, 3) := by decide +kernel
theorem dX9_call_5 : decode cX9_call 5 = .ok (.astore 5, 2) := by decide +kernel
theorem dX9_call_7 : decode cX9_call 7 = .ok (.aload 5, 2) := by decide +kernel
theorem dX9_call_9 : decode cX9_call 9 = .ok (.ifnull 29, 3) := by decide +kernel
theorem dX9_call_12 : decode cX9_call 12 = .ok (.iload_n 2, 1) := by decide +kernel
theorem dX9_call_13 : decode cX9_call 13 = .ok (.iconst 1, 1) := by decide +kernel
theorem dX9_call_14 : decode cX9_call 14 = .ok (.if_icmp .lt 24, 3) := by decide +kernel
theorem dX9_call_17 : decode cX9_call 17 = .ok (.iload_n 2, 1) := by decide +kernel
theorem dX9_call_18 : decode cX9_call 18 = .ok (.bipush 8, 2) := by decide +kernel
theorem dX9_call_20 : decode cX9_call 20 = .ok (.if_icmp .gt 18, 3) := by decide +kernel
theorem dX9_call_23 : decode cX9_call 23 = .ok (.iload_n 3, 1) := by decide +kernel
theorem dX9_call_24 : decode cX9_call 24 = .ok (.invokestatic 140, 3) := by decide +kernel
theorem dX9_call_27 : decode cX9_call 27 = .ok (.ifCond .eq 11, 3) := by decide +kernel
theorem dX9_call_30 : decode cX9_call 30 = .ok (.iload 4, 2) := by decide +kernel
theorem dX9_call_32 : decode cX9_call 32 = .ok (.invokestatic 143, 3) := by decide +kernel
theorem dX9_call_35 : decode cX9_call 35 = .ok (.ifCond .ne 10, 3) := by decide +kernel
theorem dX9_call_38 : decode cX9_call 38 = .ok (.aload_n 0, 1) := by decide +kernel
theorem dX9_call_39 : decode cX9_call 39 = .ok (.bipush (-2), 2) := by decide +kernel
theorem dX9_call_41 : decode cX9_call 41 = .ok (.invokevirtual 69, 3) := by decide +kernel
theorem dX9_call_44 : decode cX9_call 44 = .ok (.ireturn, 1) := by decide +kernel
theorem dX9_call_45 : decode cX9_call 45 = .ok (.aload 5, 2) := by decide +kernel
theorem dX9_call_47 : decode cX9_call 47 = .ok (.invokevirtual 77, 3) := by decide +kernel
theorem dX9_call_50 : decode cX9_call 50 = .ok (.istore 6, 2) := by decide +kernel
theorem dX9_call_52 : decode cX9_call 52 = .ok (.iload 6, 2) := by decide +kernel
theorem dX9_call_54 : decode cX9_call 54 = .ok (.ifCond .eq 10, 3) := by decide +kernel
theorem dX9_call_57 : decode cX9_call 57 = .ok (.aload_n 0, 1) := by decide +kernel
theorem dX9_call_58 : decode cX9_call 58 = .ok (.iload 6, 2) := by decide +kernel
theorem dX9_call_60 : decode cX9_call 60 = .ok (.invokevirtual 69, 3) := by decide +kernel
theorem dX9_call_63 : decode cX9_call 63 = .ok (.ireturn, 1) := by decide +kernel
theorem dX9_call_64 : decode cX9_call 64 = .ok (.iload_n 2, 1) := by decide +kernel
theorem dX9_call_65 : decode cX9_call 65 = .ok (.aload 5, 2) := by decide +kernel
theorem dX9_call_67 : decode cX9_call 67 = .ok (.getfield 146, 3) := by decide +kernel
theorem dX9_call_70 : decode cX9_call 70 = .ok (.if_icmp .gt 12, 3) := by decide +kernel
theorem dX9_call_73 : decode cX9_call 73 = .ok (.aload 5, 2) := by decide +kernel
theorem dX9_call_75 : decode cX9_call 75 = .ok (.iload_n 2, 1) := by decide +kernel
theorem dX9_call_76 : decode cX9_call 76 = .ok (.invokevirtual 149, 3) := by decide +kernel
theorem dX9_call_79 : decode cX9_call 79 = .ok (.ifCond .ne 10, 3) := by decide +kernel
theorem dX9_call_82 : decode cX9_call 82 = .ok (.aload_n 0, 1) := by decide +kernel
theorem dX9_call_83 : decode cX9_call 83 = .ok (.bipush (-2), 2) := by decide +kernel
theorem dX9_call_85 : decode cX9_call 85 = .ok (.invokevirtual 69, 3) := by decide +kernel
theorem dX9_call_88 : decode cX9_call 88 = .ok (.ireturn, 1) := by decide +kernel
theorem dX9_call_89 : decode cX9_call 89 = .ok (.aload_n 0, 1) := by decide +kernel
theorem dX9_call_90 : decode cX9_call 90 = .ok (.getfield 10, 3) := by decide +kernel
theorem dX9_call_93 : decode cX9_call 93 = .ok (.invokevirtual 152, 3) := by decide +kernel
theorem dX9_call_96 : decode cX9_call 96 = .ok (.ifCond .ne 10, 3) := by decide +kernel
theorem dX9_call_99 : decode cX9_call 99 = .ok (.aload_n 0, 1) := by decide +kernel
theorem dX9_call_100 : decode cX9_call 100 = .ok (.bipush (-6), 2) := by decide +kernel
theorem dX9_call_102 : decode cX9_call 102 = .ok (.invokevirtual 69, 3) := by decide +kernel
theorem dX9_call_105 : decode cX9_call 105 = .ok (.ireturn, 1) := by decide +kernel
theorem dX9_call_106 : decode cX9_call 106 = .ok (.aload_n 0, 1) := by decide +kernel
theorem dX9_call_107 : decode cX9_call 107 = .ok (.getfield 10, 3) := by decide +kernel
theorem dX9_call_110 : decode cX9_call 110 = .ok (.iload_n 3, 1) := by decide +kernel
theorem dX9_call_111 : decode cX9_call 111 = .ok (.iload 4, 2) := by decide +kernel
theorem dX9_call_113 : decode cX9_call 113 = .ok (.invokevirtual 155, 3) := by decide +kernel
theorem dX9_call_116 : decode cX9_call 116 = .ok (.istore 7, 2) := by decide +kernel
theorem dX9_call_118 : decode cX9_call 118 = .ok (.iconst 0, 1) := by decide +kernel
theorem dX9_call_119 : decode cX9_call 119 = .ok (.istore 8, 2) := by decide +kernel
theorem dX9_call_121 : decode cX9_call 121 = .ok (.iload 8, 2) := by decide +kernel
theorem dX9_call_123 : decode cX9_call 123 = .ok (.iload_n 2, 1) := by decide +kernel
theorem dX9_call_124 : decode cX9_call 124 = .ok (.if_icmp .ge 24, 3) := by decide +kernel
theorem dX9_call_127 : decode cX9_call 127 = .ok (.aload_n 0, 1) := by decide +kernel
theorem dX9_call_128 : decode cX9_call 128 = .ok (.getfield 10, 3) := by decide +kernel
theorem dX9_call_131 : decode cX9_call 131 = .ok (.aload 5, 2) := by decide +kernel
theorem dX9_call_133 : decode cX9_call 133 = .ok (.iload 8, 2) := by decide +kernel
theorem dX9_call_135 : decode cX9_call 135 = .ok (.invokevirtual 104, 3) := by decide +kernel
theorem dX9_call_138 : decode cX9_call 138 = .ok (.l2i, 1) := by decide +kernel
theorem dX9_call_139 : decode cX9_call 139 = .ok (.invokevirtual 159, 3) := by decide +kernel
theorem dX9_call_142 : decode cX9_call 142 = .ok (.iinc 8 1, 3) := by decide +kernel
theorem dX9_call_145 : decode cX9_call 145 = .ok (.goto (-24), 3) := by decide +kernel
theorem dX9_call_148 : decode cX9_call 148 = .ok (.iload 7, 2) := by decide +kernel
theorem dX9_call_150 : decode cX9_call 150 = .ok (.ireturn, 1) := by decide +kernel
theorem dX9_ear_0 : decode cX9_ear 0 = .ok (.iload_n 1, 1) := by decide +kernel
theorem dX9_ear_1 : decode cX9_ear 1 = .ok (.invokestatic 119, 3) := by decide +kernel
theorem dX9_ear_4 : decode cX9_ear 4 = .ok (.ifCond .eq 10, 3) := by decide +kernel
theorem dX9_ear_7 : decode cX9_ear 7 = .ok (.iload_n 2, 1) := by decide +kernel
theorem dX9_ear_8 : decode cX9_ear 8 = .ok (.invokestatic 162, 3) := by decide +kernel
theorem dX9_ear_11 : decode cX9_ear 11 = .ok (.ifCond .ne 10, 3) := by decide +kernel
theorem dX9_ear_14 : decode cX9_ear 14 = .ok (.aload_n 0, 1) := by decide +kernel
theorem dX9_ear_15 : decode cX9_ear 15 = .ok (.bipush (-2), 2) := by decide +kernel
theorem dX9_ear_17 : decode cX9_ear 17 = .ok (.invokevirtual 69, 3) := by decide +kernel
theorem dX9_ear_20 : decode cX9_ear 20 = .ok (.ireturn, 1) := by decide +kernel
theorem dX9_ear_21 : decode cX9_ear 21 = .ok (.aload_n 0, 1) := by decide +kernel
theorem dX9_ear_22 : decode cX9_ear 22 = .ok (.getfield 10, 3) := by decide +kernel
theorem dX9_ear_25 : decode cX9_ear 25 = .ok (.invokevirtual 165, 3) := by decide +kernel
theorem dX9_ear_28 : decode cX9_ear 28 = .ok (.ifCond .eq 15, 3) := by decide +kernel
theorem dX9_ear_31 : decode cX9_ear 31 = .ok (.aload_n 0, 1) := by decide +kernel
theorem dX9_ear_32 : decode cX9_ear 32 = .ok (.getfield 10, 3) := by decide +kernel
theorem dX9_ear_35 : decode cX9_ear 35 = .ok (.iload_n 1, 1) := by decide +kernel
theorem dX9_ear_36 : decode cX9_ear 36 = .ok (.iload_n 2, 1) := by decide +kernel
theorem dX9_ear_37 : decode cX9_ear 37 = .ok (.invokevirtual 168, 3) := by decide +kernel
theorem dX9_ear_40 : decode cX9_ear 40 = .ok (.goto 9, 3) := by decide +kernel
theorem dX9_ear_43 : decode cX9_ear 43 = .ok (.aload_n 0, 1) := by decide +kernel
theorem dX9_ear_44 : decode cX9_ear 44 = .ok (.bipush (-6), 2) := by decide +kernel
theorem dX9_ear_46 : decode cX9_ear 46 = .ok (.invokevirtual 69, 3) := by decide +kernel
theorem dX9_ear_49 : decode cX9_ear 49 = .ok (.ireturn, 1) := by decide +kernel
theorem dX9_man_0 : decode cX9_man 0 = .ok (.aload_n 0, 1) := by decide +kernel
theorem dX9_man_1 : decode cX9_man 1 = .ok (.getfield 10, 3) := by decide +kernel
theorem dX9_man_4 : decode cX9_man 4 = .ok (.iload_n 1, 1) := by decide +kernel
theorem dX9_man_5 : decode cX9_man 5 = .ok (.invokevirtual 108, 3) := by decide +kernel
theorem dX9_man_8 : decode cX9_man 8 = .ok (.ifCond .eq 10, 3) := by decide +kernel
theorem dX9_man_11 : decode cX9_man 11 = .ok (.iload_n 2, 1) := by decide +kernel
theorem dX9_man_12 : decode cX9_man 12 = .ok (.invokestatic 171, 3) := by decide +kernel
theorem dX9_man_15 : decode cX9_man 15 = .ok (.ifCond .ne 10, 3) := by decide +kernel
theorem dX9_man_18 : decode cX9_man 18 = .ok (.aload_n 0, 1) := by decide +kernel
theorem dX9_man_19 : decode cX9_man 19 = .ok (.bipush (-2), 2) := by decide +kernel
theorem dX9_man_21 : decode cX9_man 21 = .ok (.invokevirtual 69, 3) := by decide +kernel
theorem dX9_man_24 : decode cX9_man 24 = .ok (.ireturn, 1) := by decide +kernel
theorem dX9_man_25 : decode cX9_man 25 = .ok (.aload_n 0, 1) := by decide +kernel
theorem dX9_man_26 : decode cX9_man 26 = .ok (.getfield 10, 3) := by decide +kernel
theorem dX9_man_29 : decode cX9_man 29 = .ok (.invokevirtual 174, 3) := by decide +kernel
theorem dX9_man_32 : decode cX9_man 32 = .ok (.ifCond .eq 15, 3) := by decide +kernel
theorem dX9_man_35 : decode cX9_man 35 = .ok (.aload_n 0, 1) := by decide +kernel
theorem dX9_man_36 : decode cX9_man 36 = .ok (.getfield 10, 3) := by decide +kernel
theorem dX9_man_39 : decode cX9_man 39 = .ok (.iload_n 1, 1) := by decide +kernel
theorem dX9_man_40 : decode cX9_man 40 = .ok (.iload_n 2, 1) := by decide +kernel
theorem dX9_man_41 : decode cX9_man 41 = .ok (.invokevirtual 177, 3) := by decide +kernel
theorem dX9_man_44 : decode cX9_man 44 = .ok (.goto 9, 3) := by decide +kernel
theorem dX9_man_47 : decode cX9_man 47 = .ok (.aload_n 0, 1) := by decide +kernel
theorem dX9_man_48 : decode cX9_man 48 = .ok (.bipush (-6), 2) := by decide +kernel
theorem dX9_man_50 : decode cX9_man 50 = .ok (.invokevirtual 69, 3) := by decide +kernel
theorem dX9_man_53 : decode cX9_man 53 = .ok (.ireturn, 1) := by decide +kernel
theorem dX9_tell_0 : decode cX9_tell 0 = .ok (.aload_n 0, 1) := by decide +kernel
theorem dX9_tell_1 : decode cX9_tell 1 = .ok (.getfield 10, 3) := by decide +kernel
theorem dX9_tell_4 : decode cX9_tell 4 = .ok (.iload_n 1, 1) := by decide +kernel
theorem dX9_tell_5 : decode cX9_tell 5 = .ok (.invokevirtual 180, 3) := by decide +kernel
theorem dX9_tell_8 : decode cX9_tell 8 = .ok (.ifCond .ne 10, 3) := by decide +kernel
theorem dX9_tell_11 : decode cX9_tell 11 = .ok (.aload_n 0, 1) := by decide +kernel
theorem dX9_tell_12 : decode cX9_tell 12 = .ok (.bipush (-2), 2) := by decide +kernel
theorem dX9_tell_14 : decode cX9_tell 14 = .ok (.invokevirtual 69, 3) := by decide +kernel
theorem dX9_tell_17 : decode cX9_tell 17 = .ok (.ireturn, 1) := by decide +kernel
theorem dX9_tell_18 : decode cX9_tell 18 = .ok (.iload_n 2, 1) := by decide +kernel
theorem dX9_tell_19 : decode cX9_tell 19 = .ok (.ifCond .ne 20, 3) := by decide +kernel
theorem dX9_tell_22 : decode cX9_tell 22 = .ok (.iload_n 3, 1) := by decide +kernel
theorem dX9_tell_23 : decode cX9_tell 23 = .ok (.invokestatic 140, 3) := by decide +kernel
theorem dX9_tell_26 : decode cX9_tell 26 = .ok (.ifCond .eq 13, 3) := by decide +kernel
theorem dX9_tell_29 : decode cX9_tell 29 = .ok (.aload_n 0, 1) := by decide +kernel
theorem dX9_tell_30 : decode cX9_tell 30 = .ok (.getfield 10, 3) := by decide +kernel
theorem dX9_tell_33 : decode cX9_tell 33 = .ok (.iload_n 1, 1) := by decide +kernel
theorem dX9_tell_34 : decode cX9_tell 34 = .ok (.iload_n 3, 1) := by decide +kernel
theorem dX9_tell_35 : decode cX9_tell 35 = .ok (.invokevirtual 183, 3) := by decide +kernel
theorem dX9_tell_38 : decode cX9_tell 38 = .ok (.ireturn, 1) := by decide +kernel
theorem dX9_tell_39 : decode cX9_tell 39 = .ok (.iload_n 2, 1) := by decide +kernel
theorem dX9_tell_40 : decode cX9_tell 40 = .ok (.iconst 1, 1) := by decide +kernel
theorem dX9_tell_41 : decode cX9_tell 41 = .ok (.if_icmp .ne 20, 3) := by decide +kernel
theorem dX9_tell_44 : decode cX9_tell 44 = .ok (.iload_n 3, 1) := by decide +kernel
theorem dX9_tell_45 : decode cX9_tell 45 = .ok (.invokestatic 143, 3) := by decide +kernel
theorem dX9_tell_48 : decode cX9_tell 48 = .ok (.ifCond .eq 13, 3) := by decide +kernel
theorem dX9_tell_51 : decode cX9_tell 51 = .ok (.aload_n 0, 1) := by decide +kernel
theorem dX9_tell_52 : decode cX9_tell 52 = .ok (.getfield 10, 3) := by decide +kernel
theorem dX9_tell_55 : decode cX9_tell 55 = .ok (.iload_n 1, 1) := by decide +kernel
theorem dX9_tell_56 : decode cX9_tell 56 = .ok (.iload_n 3, 1) := by decide +kernel
theorem dX9_tell_57 : decode cX9_tell 57 = .ok (.invokevirtual 186, 3) := by decide +kernel
theorem dX9_tell_60 : decode cX9_tell 60 = .ok (.ireturn, 1) := by decide +kernel
theorem dX9_tell_61 : decode cX9_tell 61 = .ok (.aload_n 0, 1) := by decide +kernel
theorem dX9_tell_62 : decode cX9_tell 62 = .ok (.bipush (-2), 2) := by decide +kernel
theorem dX9_tell_64 : decode cX9_tell 64 = .ok (.invokevirtual 69, 3) := by decide +kernel
theorem dX9_tell_67 : decode cX9_tell 67 = .ok (.ireturn, 1) := by decide +kernel
theorem dX9_ask_0 : decode cX9_ask 0 = .ok (.iload_n 1, 1) := by decide +kernel
theorem dX9_ask_1 : decode cX9_ask 1 = .ok (.ifCond .ne 28, 3) := by decide +kernel
theorem dX9_ask_4 : decode cX9_ask 4 = .ok (.iload_n 2, 1) := by decide +kernel
theorem dX9_ask_5 : decode cX9_ask 5 = .ok (.invokestatic 189, 3) := by decide +kernel
theorem dX9_ask_8 : decode cX9_ask 8 = .ok (.ifCond .eq 21, 3) := by decide +kernel
theorem dX9_ask_11 : decode cX9_ask 11 = .ok (.aload_n 0, 1) := by decide +kernel
theorem dX9_ask_12 : decode cX9_ask 12 = .ok (.getfield 10, 3) := by decide +kernel
theorem dX9_ask_15 : decode cX9_ask 15 = .ok (.getfield 192, 3) := by decide +kernel
theorem dX9_ask_18 : decode cX9_ask 18 = .ok (.istore_n 3, 1) := by decide +kernel
theorem dX9_ask_19 : decode cX9_ask 19 = .ok (.aload_n 0, 1) := by decide +kernel
theorem dX9_ask_20 : decode cX9_ask 20 = .ok (.getfield 10, 3) := by decide +kernel
theorem dX9_ask_23 : decode cX9_ask 23 = .ok (.iload_n 2, 1) := by decide +kernel
theorem dX9_ask_24 : decode cX9_ask 24 = .ok (.putfield 192, 3) := by decide +kernel
theorem dX9_ask_27 : decode cX9_ask 27 = .ok (.iload_n 3, 1) := by decide +kernel
theorem dX9_ask_28 : decode cX9_ask 28 = .ok (.ireturn, 1) := by decide +kernel
theorem dX9_ask_29 : decode cX9_ask 29 = .ok (.iload_n 1, 1) := by decide +kernel
theorem dX9_ask_30 : decode cX9_ask 30 = .ok (.iconst 1, 1) := by decide +kernel
theorem dX9_ask_31 : decode cX9_ask 31 = .ok (.if_icmp .ne 28, 3) := by decide +kernel
theorem dX9_ask_34 : decode cX9_ask 34 = .ok (.iload_n 2, 1) := by decide +kernel
theorem dX9_ask_35 : decode cX9_ask 35 = .ok (.invokestatic 195, 3) := by decide +kernel
theorem dX9_ask_38 : decode cX9_ask 38 = .ok (.ifCond .eq 21, 3) := by decide +kernel
theorem dX9_ask_41 : decode cX9_ask 41 = .ok (.aload_n 0, 1) := by decide +kernel
theorem dX9_ask_42 : decode cX9_ask 42 = .ok (.getfield 10, 3) := by decide +kernel
theorem dX9_ask_45 : decode cX9_ask 45 = .ok (.getfield 198, 3) := by decide +kernel
theorem dX9_ask_48 : decode cX9_ask 48 = .ok (.istore_n 3, 1) := by decide +kernel
theorem dX9_ask_49 : decode cX9_ask 49 = .ok (.aload_n 0, 1) := by decide +kernel
theorem dX9_ask_50 : decode cX9_ask 50 = .ok (.getfield 10, 3) := by decide +kernel
theorem dX9_ask_53 : decode cX9_ask 53 = .ok (.iload_n 2, 1) := by decide +kernel
theorem dX9_ask_54 : decode cX9_ask 54 = .ok (.putfield 198, 3) := by decide +kernel
theorem dX9_ask_57 : decode cX9_ask 57 = .ok (.iload_n 3, 1) := by decide +kernel
theorem dX9_ask_58 : decode cX9_ask 58 = .ok (.ireturn, 1) := by decide +kernel
theorem dX9_ask_59 : decode cX9_ask 59 = .ok (.aload_n 0, 1) := by decide +kernel
theorem dX9_ask_60 : decode cX9_ask 60 = .ok (.bipush (-2), 2) := by decide +kernel
theorem dX9_ask_62 : decode cX9_ask 62 = .ok (.invokevirtual 69, 3) := by decide +kernel
theorem dX9_ask_65 : decode cX9_ask 65 = .ok (.ireturn, 1) := by decide +kernel
theorem dX9_feed_0 : decode cX9_feed 0 = .ok (.iload_n 1, 1) := by decide +kernel
theorem dX9_feed_1 : decode cX9_feed 1 = .ok (.ifCond .lt 10, 3) := by decide +kernel
theorem dX9_feed_4 : decode cX9_feed 4 = .ok (.iload_n 1, 1) := by decide +kernel
theorem dX9_feed_5 : decode cX9_feed 5 = .ok (.sipush 255, 3) := by decide +kernel
theorem dX9_feed_8 : decode cX9_feed 8 = .ok (.if_icmp .le 10, 3) := by decide +kernel
theorem dX9_feed_11 : decode cX9_feed 11 = .ok (.aload_n 0, 1) := by decide +kernel
theorem dX9_feed_12 : decode cX9_feed 12 = .ok (.bipush (-2), 2) := by decide +kernel
theorem dX9_feed_14 : decode cX9_feed 14 = .ok (.invokevirtual 69, 3) := by decide +kernel
theorem dX9_feed_17 : decode cX9_feed 17 = .ok (.ireturn, 1) := by decide +kernel
theorem dX9_feed_18 : decode cX9_feed 18 = .ok (.aload_n 0, 1) := by decide +kernel
theorem dX9_feed_19 : decode cX9_feed 19 = .ok (.getfield 36, 3) := by decide +kernel
theorem dX9_feed_22 : decode cX9_feed 22 = .ok (.invokevirtual 201, 3) := by decide +kernel
theorem dX9_feed_25 : decode cX9_feed 25 = .ok (.ifCond .eq 14, 3) := by decide +kernel
theorem dX9_feed_28 : decode cX9_feed 28 = .ok (.aload_n 0, 1) := by decide +kernel
theorem dX9_feed_29 : decode cX9_feed 29 = .ok (.getfield 36, 3) := by decide +kernel
theorem dX9_feed_32 : decode cX9_feed 32 = .ok (.iload_n 1, 1) := by decide +kernel
theorem dX9_feed_33 : decode cX9_feed 33 = .ok (.invokevirtual 204, 3) := by decide +kernel
theorem dX9_feed_36 : decode cX9_feed 36 = .ok (.goto 9, 3) := by decide +kernel
theorem dX9_feed_39 : decode cX9_feed 39 = .ok (.aload_n 0, 1) := by decide +kernel
theorem dX9_feed_40 : decode cX9_feed 40 = .ok (.bipush (-6), 2) := by decide +kernel
theorem dX9_feed_42 : decode cX9_feed 42 = .ok (.invokevirtual 69, 3) := by decide +kernel
theorem dX9_feed_45 : decode cX9_feed 45 = .ok (.ireturn, 1) := by decide +kernel
theorem dX9_wipe_0 : decode cX9_wipe 0 = .ok (.aload_n 0, 1) := by decide +kernel
theorem dX9_wipe_1 : decode cX9_wipe 1 = .ok (.getfield 36, 3) := by decide +kernel
theorem dX9_wipe_4 : decode cX9_wipe 4 = .ok (.invokevirtual 207, 3) := by decide +kernel
theorem dX9_wipe_7 : decode cX9_wipe 7 = .ok (.ireturn, 1) := by decide +kernel
theorem dX9_camp_0 : decode cX9_camp 0 = .ok (.aload_n 0, 1) := by decide +kernel
theorem dX9_camp_1 : decode cX9_camp 1 = .ok (.getfield 19, 3) := by decide +kernel
theorem dX9_camp_4 : decode cX9_camp 4 = .ok (.aload_n 0, 1) := by decide +kernel
theorem dX9_camp_5 : decode cX9_camp 5 = .ok (.getfield 10, 3) := by decide +kernel
theorem dX9_camp_8 : decode cX9_camp 8 = .ok (.invokevirtual 210, 3) := by decide +kernel
theorem dX9_camp_11 : decode cX9_camp 11 = .ok (.aload_n 0, 1) := by decide +kernel
theorem dX9_camp_12 : decode cX9_camp 12 = .ok (.getfield 36, 3) := by decide +kernel
theorem dX9_camp_15 : decode cX9_camp 15 = .ok (.aload_n 0, 1) := by decide +kernel
theorem dX9_camp_16 : decode cX9_camp 16 = .ok (.getfield 19, 3) := by decide +kernel
theorem dX9_camp_19 : decode cX9_camp 19 = .ok (.invokestatic 214, 3) := by decide +kernel
theorem dX9_camp_22 : decode cX9_camp 22 = .ok (.istore_n 1, 1) := by decide +kernel
theorem dX9_camp_23 : decode cX9_camp 23 = .ok (.aload_n 0, 1) := by decide +kernel
theorem dX9_camp_24 : decode cX9_camp 24 = .ok (.getfield 36, 3) := by decide +kernel
theorem dX9_camp_27 : decode cX9_camp 27 = .ok (.invokevirtual 207, 3) := by decide +kernel
theorem dX9_camp_30 : decode cX9_camp 30 = .ok (.pop, 1) := by decide +kernel
theorem dX9_camp_31 : decode cX9_camp 31 = .ok (.iload_n 1, 1) := by decide +kernel
theorem dX9_camp_32 : decode cX9_camp 32 = .ok (.ifCond .ge 12, 3) := by decide +kernel
theorem dX9_camp_35 : decode cX9_camp 35 = .ok (.aload_n 0, 1) := by decide +kernel
theorem dX9_camp_36 : decode cX9_camp 36 = .ok (.bipush (-2), 2) := by decide +kernel
theorem dX9_camp_38 : decode cX9_camp 38 = .ok (.invokevirtual 69, 3) := by decide +kernel
theorem dX9_camp_41 : decode cX9_camp 41 = .ok (.pop, 1) := by decide +kernel
theorem dX9_camp_42 : decode cX9_camp 42 = .ok (.iload_n 1, 1) := by decide +kernel
theorem dX9_camp_43 : decode cX9_camp 43 = .ok (.ireturn, 1) := by decide +kernel
theorem dX9_camp_44 : decode cX9_camp 44 = .ok (.aload_n 0, 1) := by decide +kernel
theorem dX9_camp_45 : decode cX9_camp 45 = .ok (.getfield 10, 3) := by decide +kernel
theorem dX9_camp_48 : decode cX9_camp 48 = .ok (.aload_n 0, 1) := by decide +kernel
theorem dX9_camp_49 : decode cX9_camp 49 = .ok (.getfield 19, 3) := by decide +kernel
theorem dX9_camp_52 : decode cX9_camp 52 = .ok (.invokevirtual 210, 3) := by decide +kernel
theorem dX9_camp_55 : decode cX9_camp 55 = .ok (.iload_n 1, 1) := by decide +kernel
theorem dX9_camp_56 : decode cX9_camp 56 = .ok (.ireturn, 1) := by decide +kernel
theorem dX9_callOf_0 : decode cX9_callOf 0 = .ok (.aload_n 0, 1) := by decide +kernel
theorem dX9_callOf_1 : decode cX9_callOf 1 = .ok (.getfield 10, 3) := by decide +kernel
theorem dX9_callOf_4 : decode cX9_callOf 4 = .ok (.iload_n 1, 1) := by decide +kernel
theorem dX9_callOf_5 : decode cX9_callOf 5 = .ok (.invokevirtual 180, 3) := by decide +kernel
theorem dX9_callOf_8 : decode cX9_callOf 8 = .ok (.ifCond .ne 10, 3) := by decide +kernel
theorem dX9_callOf_11 : decode cX9_callOf 11 = .ok (.aload_n 0, 1) := by decide +kernel
theorem dX9_callOf_12 : decode cX9_callOf 12 = .ok (.bipush (-2), 2) := by decide +kernel
theorem dX9_callOf_14 : decode cX9_callOf 14 = .ok (.invokevirtual 69, 3) := by decide +kernel
theorem dX9_callOf_17 : decode cX9_callOf 17 = .ok (.ireturn, 1) := by decide +kernel
theorem dX9_callOf_18 : decode cX9_callOf 18 = .ok (.iload_n 2, 1) := by decide +kernel
theorem dX9_callOf_19 : decode cX9_callOf 19 = .ok (.tableswitch 52 0 2 #[25, 34, 43], 25) := by decide +kernel
theorem dX9_callOf_44 : decode cX9_callOf 44 = .ok (.aload_n 0, 1) := by decide +kernel
theorem dX9_callOf_45 : decode cX9_callOf 45 = .ok (.getfield 10, 3) := by decide +kernel
theorem dX9_callOf_48 : decode cX9_callOf 48 = .ok (.iload_n 1, 1) := by decide +kernel
theorem dX9_callOf_49 : decode cX9_callOf 49 = .ok (.invokevirtual 220, 3) := by decide +kernel
theorem dX9_callOf_52 : decode cX9_callOf 52 = .ok (.ireturn, 1) := by decide +kernel
theorem dX9_callOf_53 : decode cX9_callOf 53 = .ok (.aload_n 0, 1) := by decide +kernel
theorem dX9_callOf_54 : decode cX9_callOf 54 = .ok (.getfield 10, 3) := by decide +kernel
theorem dX9_callOf_57 : decode cX9_callOf 57 = .ok (.iload_n 1, 1) := by decide +kernel
theorem dX9_callOf_58 : decode cX9_callOf 58 = .ok (.invokevirtual 223, 3) := by decide +kernel
theorem dX9_callOf_61 : decode cX9_callOf 61 = .ok (.ireturn, 1) := by decide +kernel
theorem dX9_callOf_62 : decode cX9_callOf 62 = .ok (.aload_n 0, 1) := by decide +kernel
theorem dX9_callOf_63 : decode cX9_callOf 63 = .ok (.getfield 10, 3) := by decide +kernel
theorem dX9_callOf_66 : decode cX9_callOf 66 = .ok (.iload_n 1, 1) := by decide +kernel
theorem dX9_callOf_67 : decode cX9_callOf 67 = .ok (.invokevirtual 226, 3) := by decide +kernel
theorem dX9_callOf_70 : decode cX9_callOf 70 = .ok (.ireturn, 1) := by decide +kernel
theorem dX9_callOf_71 : decode cX9_callOf 71 = .ok (.iload_n 2, 1) := by decide +kernel
theorem dX9_callOf_72 : decode cX9_callOf 72 = .ok (.bipush 10, 2) := by decide +kernel
theorem dX9_callOf_74 : decode cX9_callOf 74 = .ok (.if_icmp .lt 33, 3) := by decide +kernel
theorem dX9_callOf_77 : decode cX9_callOf 77 = .ok (.aload_n 0, 1) := by decide +kernel
theorem dX9_callOf_78 : decode cX9_callOf 78 = .ok (.getfield 10, 3) := by decide +kernel
theorem dX9_callOf_81 : decode cX9_callOf 81 = .ok (.iload_n 1, 1) := by decide +kernel
theorem dX9_callOf_82 : decode cX9_callOf 82 = .ok (.iload_n 2, 1) := by decide +kernel
theorem dX9_callOf_83 : decode cX9_callOf 83 = .ok (.bipush 10, 2) := by decide +kernel
theorem dX9_callOf_85 : decode cX9_callOf 85 = .ok (.isub, 1) := by decide +kernel
theorem dX9_callOf_86 : decode cX9_callOf 86 = .ok (.invokevirtual 229, 3) := by decide +kernel
theorem dX9_callOf_89 : decode cX9_callOf 89 = .ok (.ifCond .eq 18, 3) := by decide +kernel
theorem dX9_callOf_92 : decode cX9_callOf 92 = .ok (.aload_n 0, 1) := by decide +kernel
theorem dX9_callOf_93 : decode cX9_callOf 93 = .ok (.getfield 10, 3) := by decide +kernel
theorem dX9_callOf_96 : decode cX9_callOf 96 = .ok (.iload_n 1, 1) := by decide +kernel
theorem dX9_callOf_97 : decode cX9_callOf 97 = .ok (.iload_n 2, 1) := by decide +kernel
theorem dX9_callOf_98 : decode cX9_callOf 98 = .ok (.bipush 10, 2) := by decide +kernel
theorem dX9_callOf_100 : decode cX9_callOf 100 = .ok (.isub, 1) := by decide +kernel
theorem dX9_callOf_101 : decode cX9_callOf 101 = .ok (.invokevirtual 232, 3) := by decide +kernel
theorem dX9_callOf_104 : decode cX9_callOf 104 = .ok (.goto 9, 3) := by decide +kernel
theorem dX9_callOf_107 : decode cX9_callOf 107 = .ok (.aload_n 0, 1) := by decide +kernel
theorem dX9_callOf_108 : decode cX9_callOf 108 = .ok (.bipush (-2), 2) := by decide +kernel
theorem dX9_callOf_110 : decode cX9_callOf 110 = .ok (.invokevirtual 69, 3) := by decide +kernel
theorem dX9_callOf_113 : decode cX9_callOf 113 = .ok (.ireturn, 1) := by decide +kernel
theorem dX9_earOf_0 : decode cX9_earOf 0 = .ok (.aload_n 0, 1) := by decide +kernel
theorem dX9_earOf_1 : decode cX9_earOf 1 = .ok (.getfield 10, 3) := by decide +kernel
theorem dX9_earOf_4 : decode cX9_earOf 4 = .ok (.iload_n 1, 1) := by decide +kernel
theorem dX9_earOf_5 : decode cX9_earOf 5 = .ok (.invokevirtual 108, 3) := by decide +kernel
theorem dX9_earOf_8 : decode cX9_earOf 8 = .ok (.ifCond .eq 12, 3) := by decide +kernel
theorem dX9_earOf_11 : decode cX9_earOf 11 = .ok (.iload_n 2, 1) := by decide +kernel
theorem dX9_earOf_12 : decode cX9_earOf 12 = .ok (.ifCond .lt 8, 3) := by decide +kernel
theorem dX9_earOf_15 : decode cX9_earOf 15 = .ok (.iload_n 2, 1) := by decide +kernel
theorem dX9_earOf_16 : decode cX9_earOf 16 = .ok (.iconst 1, 1) := by decide +kernel
theorem dX9_earOf_17 : decode cX9_earOf 17 = .ok (.if_icmp .le 10, 3) := by decide +kernel
theorem dX9_earOf_20 : decode cX9_earOf 20 = .ok (.aload_n 0, 1) := by decide +kernel
theorem dX9_earOf_21 : decode cX9_earOf 21 = .ok (.bipush (-2), 2) := by decide +kernel
theorem dX9_earOf_23 : decode cX9_earOf 23 = .ok (.invokevirtual 69, 3) := by decide +kernel
theorem dX9_earOf_26 : decode cX9_earOf 26 = .ok (.ireturn, 1) := by decide +kernel
theorem dX9_earOf_27 : decode cX9_earOf 27 = .ok (.iload_n 2, 1) := by decide +kernel
theorem dX9_earOf_28 : decode cX9_earOf 28 = .ok (.ifCond .ne 14, 3) := by decide +kernel
theorem dX9_earOf_31 : decode cX9_earOf 31 = .ok (.aload_n 0, 1) := by decide +kernel
theorem dX9_earOf_32 : decode cX9_earOf 32 = .ok (.getfield 10, 3) := by decide +kernel
theorem dX9_earOf_35 : decode cX9_earOf 35 = .ok (.iload_n 1, 1) := by decide +kernel
theorem dX9_earOf_36 : decode cX9_earOf 36 = .ok (.invokevirtual 127, 3) := by decide +kernel
theorem dX9_earOf_39 : decode cX9_earOf 39 = .ok (.goto 11, 3) := by decide +kernel
theorem dX9_earOf_42 : decode cX9_earOf 42 = .ok (.aload_n 0, 1) := by decide +kernel
theorem dX9_earOf_43 : decode cX9_earOf 43 = .ok (.getfield 10, 3) := by decide +kernel
theorem dX9_earOf_46 : decode cX9_earOf 46 = .ok (.iload_n 1, 1) := by decide +kernel
theorem dX9_earOf_47 : decode cX9_earOf 47 = .ok (.invokevirtual 133, 3) := by decide +kernel
theorem dX9_earOf_50 : decode cX9_earOf 50 = .ok (.ireturn, 1) := by decide +kernel
theorem dX9_manOf_0 : decode cX9_manOf 0 = .ok (.aload_n 0, 1) := by decide +kernel
theorem dX9_manOf_1 : decode cX9_manOf 1 = .ok (.getfield 10, 3) := by decide +kernel
theorem dX9_manOf_4 : decode cX9_manOf 4 = .ok (.iload_n 1, 1) := by decide +kernel
theorem dX9_manOf_5 : decode cX9_manOf 5 = .ok (.invokevirtual 235, 3) := by decide +kernel
theorem dX9_manOf_8 : decode cX9_manOf 8 = .ok (.ifCond .eq 12, 3) := by decide +kernel
theorem dX9_manOf_11 : decode cX9_manOf 11 = .ok (.iload_n 2, 1) := by decide +kernel
theorem dX9_manOf_12 : decode cX9_manOf 12 = .ok (.ifCond .lt 8, 3) := by decide +kernel
theorem dX9_manOf_15 : decode cX9_manOf 15 = .ok (.iload_n 2, 1) := by decide +kernel
theorem dX9_manOf_16 : decode cX9_manOf 16 = .ok (.iconst 1, 1) := by decide +kernel
theorem dX9_manOf_17 : decode cX9_manOf 17 = .ok (.if_icmp .le 10, 3) := by decide +kernel
theorem dX9_manOf_20 : decode cX9_manOf 20 = .ok (.aload_n 0, 1) := by decide +kernel
theorem dX9_manOf_21 : decode cX9_manOf 21 = .ok (.bipush (-2), 2) := by decide +kernel
theorem dX9_manOf_23 : decode cX9_manOf 23 = .ok (.invokevirtual 69, 3) := by decide +kernel
theorem dX9_manOf_26 : decode cX9_manOf 26 = .ok (.ireturn, 1) := by decide +kernel
theorem dX9_manOf_27 : decode cX9_manOf 27 = .ok (.iload_n 2, 1) := by decide +kernel
theorem dX9_manOf_28 : decode cX9_manOf 28 = .ok (.ifCond .ne 14, 3) := by decide +kernel
theorem dX9_manOf_31 : decode cX9_manOf 31 = .ok (.aload_n 0, 1) := by decide +kernel
theorem dX9_manOf_32 : decode cX9_manOf 32 = .ok (.getfield 10, 3) := by decide +kernel
theorem dX9_manOf_35 : decode cX9_manOf 35 = .ok (.iload_n 1, 1) := by decide +kernel
theorem dX9_manOf_36 : decode cX9_manOf 36 = .ok (.invokevirtual 238, 3) := by decide +kernel
theorem dX9_manOf_39 : decode cX9_manOf 39 = .ok (.goto 11, 3) := by decide +kernel
theorem dX9_manOf_42 : decode cX9_manOf 42 = .ok (.aload_n 0, 1) := by decide +kernel
theorem dX9_manOf_43 : decode cX9_manOf 43 = .ok (.getfield 10, 3) := by decide +kernel
theorem dX9_manOf_46 : decode cX9_manOf 46 = .ok (.iload_n 1, 1) := by decide +kernel
theorem dX9_manOf_47 : decode cX9_manOf 47 = .ok (.invokevirtual 241, 3) := by decide +kernel
theorem dX9_manOf_50 : decode cX9_manOf 50 = .ok (.ireturn, 1) := by decide +kernel
theorem dX9_heard_0 : decode cX9_heard 0 = .ok (.aload_n 0, 1) := by decide +kernel
theorem dX9_heard_1 : decode cX9_heard 1 = .ok (.getfield 10, 3) := by decide +kernel
theorem dX9_heard_4 : decode cX9_heard 4 = .ok (.iload_n 1, 1) := by decide +kernel
theorem dX9_heard_5 : decode cX9_heard 5 = .ok (.invokevirtual 180, 3) := by decide +kernel
theorem dX9_heard_8 : decode cX9_heard 8 = .ok (.ifCond .eq 26, 3) := by decide +kernel
theorem dX9_heard_11 : decode cX9_heard 11 = .ok (.aload_n 0, 1) := by decide +kernel
theorem dX9_heard_12 : decode cX9_heard 12 = .ok (.getfield 10, 3) := by decide +kernel
theorem dX9_heard_15 : decode cX9_heard 15 = .ok (.iload_n 2, 1) := by decide +kernel
theorem dX9_heard_16 : decode cX9_heard 16 = .ok (.invokevirtual 108, 3) := by decide +kernel
theorem dX9_heard_19 : decode cX9_heard 19 = .ok (.ifCond .eq 15, 3) := by decide +kernel
theorem dX9_heard_22 : decode cX9_heard 22 = .ok (.aload_n 0, 1) := by decide +kernel
theorem dX9_heard_23 : decode cX9_heard 23 = .ok (.getfield 10, 3) := by decide +kernel
theorem dX9_heard_26 : decode cX9_heard 26 = .ok (.iload_n 1, 1) := by decide +kernel
theorem dX9_heard_27 : decode cX9_heard 27 = .ok (.iload_n 3, 1) := by decide +kernel
theorem dX9_heard_28 : decode cX9_heard 28 = .ok (.invokevirtual 229, 3) := by decide +kernel
theorem dX9_heard_31 : decode cX9_heard 31 = .ok (.ifCond .ne 10, 3) := by decide +kernel
theorem dX9_heard_34 : decode cX9_heard 34 = .ok (.aload_n 0, 1) := by decide +kernel
theorem dX9_heard_35 : decode cX9_heard 35 = .ok (.bipush (-2), 2) := by decide +kernel
theorem dX9_heard_37 : decode cX9_heard 37 = .ok (.invokevirtual 69, 3) := by decide +kernel
theorem dX9_heard_40 : decode cX9_heard 40 = .ok (.ireturn, 1) := by decide +kernel
theorem dX9_heard_41 : decode cX9_heard 41 = .ok (.aload_n 0, 1) := by decide +kernel
theorem dX9_heard_42 : decode cX9_heard 42 = .ok (.getfield 10, 3) := by decide +kernel
theorem dX9_heard_45 : decode cX9_heard 45 = .ok (.iload_n 1, 1) := by decide +kernel
theorem dX9_heard_46 : decode cX9_heard 46 = .ok (.iload_n 2, 1) := by decide +kernel
theorem dX9_heard_47 : decode cX9_heard 47 = .ok (.iload_n 3, 1) := by decide +kernel
theorem dX9_heard_48 : decode cX9_heard 48 = .ok (.invokestatic 244, 3) := by decide +kernel
theorem dX9_heard_51 : decode cX9_heard 51 = .ok (.ireturn, 1) := by decide +kernel
theorem dX9_fits_0 : decode cX9_fits 0 = .ok (.aload_n 0, 1) := by decide +kernel
theorem dX9_fits_1 : decode cX9_fits 1 = .ok (.iload_n 1, 1) := by decide +kernel
theorem dX9_fits_2 : decode cX9_fits 2 = .ok (.iload_n 2, 1) := by decide +kernel
theorem dX9_fits_3 : decode cX9_fits 3 = .ok (.iload_n 3, 1) := by decide +kernel
theorem dX9_fits_4 : decode cX9_fits 4 = .ok (.aload_n 0, 1) := by decide +kernel
theorem dX9_fits_5 : decode cX9_fits 5 = .ok (.getfield 10, 3) := by decide +kernel
theorem dX9_fits_8 : decode cX9_fits 8 = .ok (.iload 4, 2) := by decide +kernel
theorem dX9_fits_10 : decode cX9_fits 10 = .ok (.invokevirtual 108, 3) := by decide +kernel
theorem dX9_fits_13 : decode cX9_fits 13 = .ok (.ifCond .eq 19, 3) := by decide +kernel
theorem dX9_fits_16 : decode cX9_fits 16 = .ok (.aload_n 0, 1) := by decide +kernel
theorem dX9_fits_17 : decode cX9_fits 17 = .ok (.getfield 10, 3) := by decide +kernel
theorem dX9_fits_20 : decode cX9_fits 20 = .ok (.iload 5, 2) := by decide +kernel
theorem dX9_fits_22 : decode cX9_fits 22 = .ok (.invokevirtual 180, 3) := by decide +kernel
theorem dX9_fits_25 : decode cX9_fits 25 = .ok (.ifCond .eq 7, 3) := by decide +kernel
theorem dX9_fits_28 : decode cX9_fits 28 = .ok (.iconst 1, 1) := by decide +kernel
theorem dX9_fits_29 : decode cX9_fits 29 = .ok (.goto 4, 3) := by decide +kernel
theorem dX9_fits_32 : decode cX9_fits 32 = .ok (.iconst 0, 1) := by decide +kernel
theorem dX9_fits_33 : decode cX9_fits 33 = .ok (.invokevirtual 250, 3) := by decide +kernel
theorem dX9_fits_36 : decode cX9_fits 36 = .ok (.istore 6, 2) := by decide +kernel
theorem dX9_fits_38 : decode cX9_fits 38 = .ok (.iload 6, 2) := by decide +kernel
theorem dX9_fits_40 : decode cX9_fits 40 = .ok (.ifCond .eq 10, 3) := by decide +kernel
theorem dX9_fits_43 : decode cX9_fits 43 = .ok (.aload_n 0, 1) := by decide +kernel
theorem dX9_fits_44 : decode cX9_fits 44 = .ok (.iload 6, 2) := by decide +kernel
theorem dX9_fits_46 : decode cX9_fits 46 = .ok (.invokevirtual 69, 3) := by decide +kernel
theorem dX9_fits_49 : decode cX9_fits 49 = .ok (.ireturn, 1) := by decide +kernel
theorem dX9_fits_50 : decode cX9_fits 50 = .ok (.aload_n 0, 1) := by decide +kernel
theorem dX9_fits_51 : decode cX9_fits 51 = .ok (.getfield 10, 3) := by decide +kernel
theorem dX9_fits_54 : decode cX9_fits 54 = .ok (.aload_n 0, 1) := by decide +kernel
theorem dX9_fits_55 : decode cX9_fits 55 = .ok (.getfield 43, 3) := by decide +kernel
theorem dX9_fits_58 : decode cX9_fits 58 = .ok (.iload 4, 2) := by decide +kernel
theorem dX9_fits_60 : decode cX9_fits 60 = .ok (.iload 5, 2) := by decide +kernel
theorem dX9_fits_62 : decode cX9_fits 62 = .ok (.invokestatic 254, 3) := by decide +kernel
theorem dX9_fits_65 : decode cX9_fits 65 = .ok (.ifCond .eq 7, 3) := by decide +kernel
theorem dX9_fits_68 : decode cX9_fits 68 = .ok (.iconst 1, 1) := by decide +kernel
theorem dX9_fits_69 : decode cX9_fits 69 = .ok (.goto 4, 3) := by decide +kernel
theorem dX9_fits_72 : decode cX9_fits 72 = .ok (.iconst 0, 1) := by decide +kernel
theorem dX9_fits_73 : decode cX9_fits 73 = .ok (.ireturn, 1) := by decide +kernel
theorem dX9_likely_0 : decode cX9_likely 0 = .ok (.aload_n 0, 1) := by decide +kernel
theorem dX9_likely_1 : decode cX9_likely 1 = .ok (.iload_n 1, 1) := by decide +kernel
theorem dX9_likely_2 : decode cX9_likely 2 = .ok (.iload_n 2, 1) := by decide +kernel
theorem dX9_likely_3 : decode cX9_likely 3 = .ok (.iload_n 3, 1) := by decide +kernel
theorem dX9_likely_4 : decode cX9_likely 4 = .ok (.aload_n 0, 1) := by decide +kernel
theorem dX9_likely_5 : decode cX9_likely 5 = .ok (.getfield 10, 3) := by decide +kernel
theorem dX9_likely_8 : decode cX9_likely 8 = .ok (.iload 4, 2) := by decide +kernel
theorem dX9_likely_10 : decode cX9_likely 10 = .ok (.invokevirtual 108, 3) := by decide +kernel
theorem dX9_likely_13 : decode cX9_likely 13 = .ok (.ifCond .eq 19, 3) := by decide +kernel
theorem dX9_likely_16 : decode cX9_likely 16 = .ok (.aload_n 0, 1) := by decide +kernel
theorem dX9_likely_17 : decode cX9_likely 17 = .ok (.getfield 10, 3) := by decide +kernel
theorem dX9_likely_20 : decode cX9_likely 20 = .ok (.iload 5, 2) := by decide +kernel
theorem dX9_likely_22 : decode cX9_likely 22 = .ok (.invokevirtual 180, 3) := by decide +kernel
theorem dX9_likely_25 : decode cX9_likely 25 = .ok (.ifCond .eq 7, 3) := by decide +kernel
theorem dX9_likely_28 : decode cX9_likely 28 = .ok (.iconst 1, 1) := by decide +kernel
theorem dX9_likely_29 : decode cX9_likely 29 = .ok (.goto 4, 3) := by decide +kernel
theorem dX9_likely_32 : decode cX9_likely 32 = .ok (.iconst 0, 1) := by decide +kernel
theorem dX9_likely_33 : decode cX9_likely 33 = .ok (.invokevirtual 250, 3) := by decide +kernel
theorem dX9_likely_36 : decode cX9_likely 36 = .ok (.istore 6, 2) := by decide +kernel
theorem dX9_likely_38 : decode cX9_likely 38 = .ok (.iload 6, 2) := by decide +kernel
theorem dX9_likely_40 : decode cX9_likely 40 = .ok (.ifCond .ne 21, 3) := by decide +kernel
theorem dX9_likely_43 : decode cX9_likely 43 = .ok (.aload_n 0, 1) := by decide +kernel
theorem dX9_likely_44 : decode cX9_likely 44 = .ok (.getfield 10, 3) := by decide +kernel
theorem dX9_likely_47 : decode cX9_likely 47 = .ok (.aload_n 0, 1) := by decide +kernel
theorem dX9_likely_48 : decode cX9_likely 48 = .ok (.getfield 43, 3) := by decide +kernel
theorem dX9_likely_51 : decode cX9_likely 51 = .ok (.iload 4, 2) := by decide +kernel
theorem dX9_likely_53 : decode cX9_likely 53 = .ok (.iload 5, 2) := by decide +kernel
theorem dX9_likely_55 : decode cX9_likely 55 = .ok (.invokestatic 258, 3) := by decide +kernel
theorem dX9_likely_58 : decode cX9_likely 58 = .ok (.goto 9, 3) := by decide +kernel
theorem dX9_likely_61 : decode cX9_likely 61 = .ok (.aload_n 0, 1) := by decide +kernel
theorem dX9_likely_62 : decode cX9_likely 62 = .ok (.iload 6, 2) := by decide +kernel
theorem dX9_likely_64 : decode cX9_likely 64 = .ok (.invokevirtual 69, 3) := by decide +kernel
theorem dX9_likely_67 : decode cX9_likely 67 = .ok (.ireturn, 1) := by decide +kernel
theorem dX9_guess_0 : decode cX9_guess 0 = .ok (.aload_n 0, 1) := by decide +kernel
theorem dX9_guess_1 : decode cX9_guess 1 = .ok (.iload_n 1, 1) := by decide +kernel
theorem dX9_guess_2 : decode cX9_guess 2 = .ok (.iload_n 2, 1) := by decide +kernel
theorem dX9_guess_3 : decode cX9_guess 3 = .ok (.iload_n 3, 1) := by decide +kernel
theorem dX9_guess_4 : decode cX9_guess 4 = .ok (.aload_n 0, 1) := by decide +kernel
theorem dX9_guess_5 : decode cX9_guess 5 = .ok (.getfield 10, 3) := by decide +kernel
theorem dX9_guess_8 : decode cX9_guess 8 = .ok (.iload 4, 2) := by decide +kernel
theorem dX9_guess_10 : decode cX9_guess 10 = .ok (.invokevirtual 108, 3) := by decide +kernel
theorem dX9_guess_13 : decode cX9_guess 13 = .ok (.invokevirtual 250, 3) := by decide +kernel
theorem dX9_guess_16 : decode cX9_guess 16 = .ok (.istore 5, 2) := by decide +kernel
theorem dX9_guess_18 : decode cX9_guess 18 = .ok (.iload 5, 2) := by decide +kernel
theorem dX9_guess_20 : decode cX9_guess 20 = .ok (.ifCond .ne 19, 3) := by decide +kernel
theorem dX9_guess_23 : decode cX9_guess 23 = .ok (.aload_n 0, 1) := by decide +kernel
theorem dX9_guess_24 : decode cX9_guess 24 = .ok (.getfield 10, 3) := by decide +kernel
theorem dX9_guess_27 : decode cX9_guess 27 = .ok (.aload_n 0, 1) := by decide +kernel
theorem dX9_guess_28 : decode cX9_guess 28 = .ok (.getfield 43, 3) := by decide +kernel
theorem dX9_guess_31 : decode cX9_guess 31 = .ok (.iload 4, 2) := by decide +kernel
theorem dX9_guess_33 : decode cX9_guess 33 = .ok (.invokestatic 262, 3) := by decide +kernel
theorem dX9_guess_36 : decode cX9_guess 36 = .ok (.goto 9, 3) := by decide +kernel
theorem dX9_guess_39 : decode cX9_guess 39 = .ok (.aload_n 0, 1) := by decide +kernel
theorem dX9_guess_40 : decode cX9_guess 40 = .ok (.iload 5, 2) := by decide +kernel
theorem dX9_guess_42 : decode cX9_guess 42 = .ok (.invokevirtual 69, 3) := by decide +kernel
theorem dX9_guess_45 : decode cX9_guess 45 = .ok (.ireturn, 1) := by decide +kernel
theorem dX9_apart_0 : decode cX9_apart 0 = .ok (.aload_n 0, 1) := by decide +kernel
theorem dX9_apart_1 : decode cX9_apart 1 = .ok (.getfield 10, 3) := by decide +kernel
theorem dX9_apart_4 : decode cX9_apart 4 = .ok (.iload_n 1, 1) := by decide +kernel
theorem dX9_apart_5 : decode cX9_apart 5 = .ok (.invokevirtual 180, 3) := by decide +kernel
theorem dX9_apart_8 : decode cX9_apart 8 = .ok (.ifCond .eq 14, 3) := by decide +kernel
theorem dX9_apart_11 : decode cX9_apart 11 = .ok (.aload_n 0, 1) := by decide +kernel
theorem dX9_apart_12 : decode cX9_apart 12 = .ok (.getfield 10, 3) := by decide +kernel
theorem dX9_apart_15 : decode cX9_apart 15 = .ok (.iload_n 2, 1) := by decide +kernel
theorem dX9_apart_16 : decode cX9_apart 16 = .ok (.invokevirtual 180, 3) := by decide +kernel
theorem dX9_apart_19 : decode cX9_apart 19 = .ok (.ifCond .ne 10, 3) := by decide +kernel
theorem dX9_apart_22 : decode cX9_apart 22 = .ok (.aload_n 0, 1) := by decide +kernel
theorem dX9_apart_23 : decode cX9_apart 23 = .ok (.bipush (-2), 2) := by decide +kernel
theorem dX9_apart_25 : decode cX9_apart 25 = .ok (.invokevirtual 69, 3) := by decide +kernel
theorem dX9_apart_28 : decode cX9_apart 28 = .ok (.ireturn, 1) := by decide +kernel
theorem dX9_apart_29 : decode cX9_apart 29 = .ok (.aload_n 0, 1) := by decide +kernel
theorem dX9_apart_30 : decode cX9_apart 30 = .ok (.getfield 10, 3) := by decide +kernel
theorem dX9_apart_33 : decode cX9_apart 33 = .ok (.iload_n 1, 1) := by decide +kernel
theorem dX9_apart_34 : decode cX9_apart 34 = .ok (.invokevirtual 266, 3) := by decide +kernel
theorem dX9_apart_37 : decode cX9_apart 37 = .ok (.aload_n 0, 1) := by decide +kernel
theorem dX9_apart_38 : decode cX9_apart 38 = .ok (.getfield 10, 3) := by decide +kernel
theorem dX9_apart_41 : decode cX9_apart 41 = .ok (.iload_n 2, 1) := by decide +kernel
theorem dX9_apart_42 : decode cX9_apart 42 = .ok (.invokevirtual 266, 3) := by decide +kernel
theorem dX9_apart_45 : decode cX9_apart 45 = .ok (.invokestatic 269, 3) := by decide +kernel
theorem dX9_apart_48 : decode cX9_apart 48 = .ok (.ireturn, 1) := by decide +kernel
theorem dX9_known_0 : decode cX9_known 0 = .ok (.aload_n 0, 1) := by decide +kernel
theorem dX9_known_1 : decode cX9_known 1 = .ok (.getfield 10, 3) := by decide +kernel
theorem dX9_known_4 : decode cX9_known 4 = .ok (.iload_n 1, 1) := by decide +kernel
theorem dX9_known_5 : decode cX9_known 5 = .ok (.invokevirtual 180, 3) := by decide +kernel
theorem dX9_known_8 : decode cX9_known 8 = .ok (.ifCond .eq 14, 3) := by decide +kernel
theorem dX9_known_11 : decode cX9_known 11 = .ok (.aload_n 0, 1) := by decide +kernel
theorem dX9_known_12 : decode cX9_known 12 = .ok (.getfield 10, 3) := by decide +kernel
theorem dX9_known_15 : decode cX9_known 15 = .ok (.iload_n 2, 1) := by decide +kernel
theorem dX9_known_16 : decode cX9_known 16 = .ok (.invokevirtual 108, 3) := by decide +kernel
theorem dX9_known_19 : decode cX9_known 19 = .ok (.ifCond .ne 10, 3) := by decide +kernel
theorem dX9_known_22 : decode cX9_known 22 = .ok (.aload_n 0, 1) := by decide +kernel
theorem dX9_known_23 : decode cX9_known 23 = .ok (.bipush (-2), 2) := by decide +kernel
theorem dX9_known_25 : decode cX9_known 25 = .ok (.invokevirtual 69, 3) := by decide +kernel
theorem dX9_known_28 : decode cX9_known 28 = .ok (.ireturn, 1) := by decide +kernel
theorem dX9_known_29 : decode cX9_known 29 = .ok (.aload_n 0, 1) := by decide +kernel
theorem dX9_known_30 : decode cX9_known 30 = .ok (.getfield 10, 3) := by decide +kernel
theorem dX9_known_33 : decode cX9_known 33 = .ok (.aload_n 0, 1) := by decide +kernel
theorem dX9_known_34 : decode cX9_known 34 = .ok (.getfield 43, 3) := by decide +kernel
theorem dX9_known_37 : decode cX9_known 37 = .ok (.iload_n 1, 1) := by decide +kernel
theorem dX9_known_38 : decode cX9_known 38 = .ok (.iload_n 2, 1) := by decide +kernel
theorem dX9_known_39 : decode cX9_known 39 = .ok (.invokestatic 272, 3) := by decide +kernel
theorem dX9_known_42 : decode cX9_known 42 = .ok (.istore_n 3, 1) := by decide +kernel
theorem dX9_known_43 : decode cX9_known 43 = .ok (.iload_n 3, 1) := by decide +kernel
theorem dX9_known_44 : decode cX9_known 44 = .ok (.aload_n 0, 1) := by decide +kernel
theorem dX9_known_45 : decode cX9_known 45 = .ok (.getfield 10, 3) := by decide +kernel
theorem dX9_known_48 : decode cX9_known 48 = .ok (.iload_n 1, 1) := by decide +kernel
theorem dX9_known_49 : decode cX9_known 49 = .ok (.invokevirtual 220, 3) := by decide +kernel
theorem dX9_known_52 : decode cX9_known 52 = .ok (.iconst 1, 1) := by decide +kernel
theorem dX9_known_53 : decode cX9_known 53 = .ok (.iadd, 1) := by decide +kernel
theorem dX9_known_54 : decode cX9_known 54 = .ok (.if_icmp .gt 7, 3) := by decide +kernel
theorem dX9_known_57 : decode cX9_known 57 = .ok (.iload_n 3, 1) := by decide +kernel
theorem dX9_known_58 : decode cX9_known 58 = .ok (.goto 4, 3) := by decide +kernel
theorem dX9_known_61 : decode cX9_known 61 = .ok (.iconst (-1), 1) := by decide +kernel
theorem dX9_known_62 : decode cX9_known 62 = .ok (.ireturn, 1) := by decide +kernel
theorem dX9_earFor_0 : decode cX9_earFor 0 = .ok (.aload_n 0, 1) := by decide +kernel
theorem dX9_earFor_1 : decode cX9_earFor 1 = .ok (.getfield 10, 3) := by decide +kernel
theorem dX9_earFor_4 : decode cX9_earFor 4 = .ok (.iload_n 1, 1) := by decide +kernel
theorem dX9_earFor_5 : decode cX9_earFor 5 = .ok (.invokevirtual 180, 3) := by decide +kernel
theorem dX9_earFor_8 : decode cX9_earFor 8 = .ok (.ifCond .ne 10, 3) := by decide +kernel
theorem dX9_earFor_11 : decode cX9_earFor 11 = .ok (.aload_n 0, 1) := by decide +kernel
theorem dX9_earFor_12 : decode cX9_earFor 12 = .ok (.bipush (-2), 2) := by decide +kernel
theorem dX9_earFor_14 : decode cX9_earFor 14 = .ok (.invokevirtual 69, 3) := by decide +kernel
theorem dX9_earFor_17 : decode cX9_earFor 17 = .ok (.ireturn, 1) := by decide +kernel
theorem dX9_earFor_18 : decode cX9_earFor 18 = .ok (.aload_n 0, 1) := by decide +kernel
theorem dX9_earFor_19 : decode cX9_earFor 19 = .ok (.getfield 10, 3) := by decide +kernel
theorem dX9_earFor_22 : decode cX9_earFor 22 = .ok (.getfield 275, 3) := by decide +kernel
theorem dX9_earFor_25 : decode cX9_earFor 25 = .ok (.ifCond .le 18, 3) := by decide +kernel
theorem dX9_earFor_28 : decode cX9_earFor 28 = .ok (.aload_n 0, 1) := by decide +kernel
theorem dX9_earFor_29 : decode cX9_earFor 29 = .ok (.getfield 10, 3) := by decide +kernel
theorem dX9_earFor_32 : decode cX9_earFor 32 = .ok (.aload_n 0, 1) := by decide +kernel
theorem dX9_earFor_33 : decode cX9_earFor 33 = .ok (.getfield 43, 3) := by decide +kernel
theorem dX9_earFor_36 : decode cX9_earFor 36 = .ok (.iload_n 1, 1) := by decide +kernel
theorem dX9_earFor_37 : decode cX9_earFor 37 = .ok (.invokestatic 278, 3) := by decide +kernel
theorem dX9_earFor_40 : decode cX9_earFor 40 = .ok (.goto 9, 3) := by decide +kernel
theorem dX9_earFor_43 : decode cX9_earFor 43 = .ok (.aload_n 0, 1) := by decide +kernel
theorem dX9_earFor_44 : decode cX9_earFor 44 = .ok (.bipush (-5), 2) := by decide +kernel
theorem dX9_earFor_46 : decode cX9_earFor 46 = .ok (.invokevirtual 69, 3) := by decide +kernel
theorem dX9_earFor_49 : decode cX9_earFor 49 = .ok (.ireturn, 1) := by decide +kernel
theorem dX9_mean_0 : decode cX9_mean 0 = .ok (.aload_n 0, 1) := by decide +kernel
theorem dX9_mean_1 : decode cX9_mean 1 = .ok (.getfield 10, 3) := by decide +kernel
theorem dX9_mean_4 : decode cX9_mean 4 = .ok (.iload_n 1, 1) := by decide +kernel
theorem dX9_mean_5 : decode cX9_mean 5 = .ok (.invokevirtual 108, 3) := by decide +kernel
theorem dX9_mean_8 : decode cX9_mean 8 = .ok (.ifCond .ne 10, 3) := by decide +kernel
theorem dX9_mean_11 : decode cX9_mean 11 = .ok (.aload_n 0, 1) := by decide +kernel
theorem dX9_mean_12 : decode cX9_mean 12 = .ok (.bipush (-2), 2) := by decide +kernel
theorem dX9_mean_14 : decode cX9_mean 14 = .ok (.invokevirtual 69, 3) := by decide +kernel
theorem dX9_mean_17 : decode cX9_mean 17 = .ok (.ireturn, 1) := by decide +kernel
theorem dX9_mean_18 : decode cX9_mean 18 = .ok (.aload_n 0, 1) := by decide +kernel
theorem dX9_mean_19 : decode cX9_mean 19 = .ok (.getfield 10, 3) := by decide +kernel
theorem dX9_mean_22 : decode cX9_mean 22 = .ok (.getfield 281, 3) := by decide +kernel
theorem dX9_mean_25 : decode cX9_mean 25 = .ok (.ifCond .le 18, 3) := by decide +kernel
theorem dX9_mean_28 : decode cX9_mean 28 = .ok (.aload_n 0, 1) := by decide +kernel
theorem dX9_mean_29 : decode cX9_mean 29 = .ok (.getfield 10, 3) := by decide +kernel
theorem dX9_mean_32 : decode cX9_mean 32 = .ok (.aload_n 0, 1) := by decide +kernel
theorem dX9_mean_33 : decode cX9_mean 33 = .ok (.getfield 43, 3) := by decide +kernel
theorem dX9_mean_36 : decode cX9_mean 36 = .ok (.iload_n 1, 1) := by decide +kernel
theorem dX9_mean_37 : decode cX9_mean 37 = .ok (.invokestatic 284, 3) := by decide +kernel
theorem dX9_mean_40 : decode cX9_mean 40 = .ok (.goto 9, 3) := by decide +kernel
theorem dX9_mean_43 : decode cX9_mean 43 = .ok (.aload_n 0, 1) := by decide +kernel
theorem dX9_mean_44 : decode cX9_mean 44 = .ok (.bipush (-5), 2) := by decide +kernel
theorem dX9_mean_46 : decode cX9_mean 46 = .ok (.invokevirtual 69, 3) := by decide +kernel
theorem dX9_mean_49 : decode cX9_mean 49 = .ok (.ireturn, 1) := by decide +kernel
theorem dX9_worst_0 : decode cX9_worst 0 = .ok (.aload_n 0, 1) := by decide +kernel
theorem dX9_worst_1 : decode cX9_worst 1 = .ok (.getfield 10, 3) := by decide +kernel
theorem dX9_worst_4 : decode cX9_worst 4 = .ok (.iload_n 1, 1) := by decide +kernel
theorem dX9_worst_5 : decode cX9_worst 5 = .ok (.invokevirtual 108, 3) := by decide +kernel
theorem dX9_worst_8 : decode cX9_worst 8 = .ok (.ifCond .ne 10, 3) := by decide +kernel
theorem dX9_worst_11 : decode cX9_worst 11 = .ok (.aload_n 0, 1) := by decide +kernel
theorem dX9_worst_12 : decode cX9_worst 12 = .ok (.bipush (-2), 2) := by decide +kernel
theorem dX9_worst_14 : decode cX9_worst 14 = .ok (.invokevirtual 69, 3) := by decide +kernel
theorem dX9_worst_17 : decode cX9_worst 17 = .ok (.ireturn, 1) := by decide +kernel
theorem dX9_worst_18 : decode cX9_worst 18 = .ok (.aload_n 0, 1) := by decide +kernel
theorem dX9_worst_19 : decode cX9_worst 19 = .ok (.getfield 10, 3) := by decide +kernel
theorem dX9_worst_22 : decode cX9_worst 22 = .ok (.getfield 281, 3) := by decide +kernel
theorem dX9_worst_25 : decode cX9_worst 25 = .ok (.ifCond .le 18, 3) := by decide +kernel
theorem dX9_worst_28 : decode cX9_worst 28 = .ok (.aload_n 0, 1) := by decide +kernel
theorem dX9_worst_29 : decode cX9_worst 29 = .ok (.getfield 10, 3) := by decide +kernel
theorem dX9_worst_32 : decode cX9_worst 32 = .ok (.aload_n 0, 1) := by decide +kernel
theorem dX9_worst_33 : decode cX9_worst 33 = .ok (.getfield 43, 3) := by decide +kernel
theorem dX9_worst_36 : decode cX9_worst 36 = .ok (.iload_n 1, 1) := by decide +kernel
theorem dX9_worst_37 : decode cX9_worst 37 = .ok (.invokestatic 287, 3) := by decide +kernel
theorem dX9_worst_40 : decode cX9_worst 40 = .ok (.goto 9, 3) := by decide +kernel
theorem dX9_worst_43 : decode cX9_worst 43 = .ok (.aload_n 0, 1) := by decide +kernel
theorem dX9_worst_44 : decode cX9_worst 44 = .ok (.bipush (-5), 2) := by decide +kernel
theorem dX9_worst_46 : decode cX9_worst 46 = .ok (.invokevirtual 69, 3) := by decide +kernel
theorem dX9_worst_49 : decode cX9_worst 49 = .ok (.ireturn, 1) := by decide +kernel
theorem dX9_next_0 : decode cX9_next 0 = .ok (.aload_n 0, 1) := by decide +kernel
theorem dX9_next_1 : decode cX9_next 1 = .ok (.iload_n 1, 1) := by decide +kernel
theorem dX9_next_2 : decode cX9_next 2 = .ok (.iload_n 2, 1) := by decide +kernel
theorem dX9_next_3 : decode cX9_next 3 = .ok (.iconst 0, 1) := by decide +kernel
theorem dX9_next_4 : decode cX9_next 4 = .ok (.aload_n 0, 1) := by decide +kernel
theorem dX9_next_5 : decode cX9_next 5 = .ok (.getfield 10, 3) := by decide +kernel
theorem dX9_next_8 : decode cX9_next 8 = .ok (.iload_n 3, 1) := by decide +kernel
theorem dX9_next_9 : decode cX9_next 9 = .ok (.invokevirtual 108, 3) := by decide +kernel
theorem dX9_next_12 : decode cX9_next 12 = .ok (.invokevirtual 250, 3) := by decide +kernel
theorem dX9_next_15 : decode cX9_next 15 = .ok (.istore 4, 2) := by decide +kernel
theorem dX9_next_17 : decode cX9_next 17 = .ok (.iload 4, 2) := by decide +kernel
theorem dX9_next_19 : decode cX9_next 19 = .ok (.ifCond .ne 18, 3) := by decide +kernel
theorem dX9_next_22 : decode cX9_next 22 = .ok (.aload_n 0, 1) := by decide +kernel
theorem dX9_next_23 : decode cX9_next 23 = .ok (.getfield 10, 3) := by decide +kernel
theorem dX9_next_26 : decode cX9_next 26 = .ok (.aload_n 0, 1) := by decide +kernel
theorem dX9_next_27 : decode cX9_next 27 = .ok (.getfield 43, 3) := by decide +kernel
theorem dX9_next_30 : decode cX9_next 30 = .ok (.iload_n 3, 1) := by decide +kernel
theorem dX9_next_31 : decode cX9_next 31 = .ok (.invokestatic 290, 3) := by decide +kernel
theorem dX9_next_34 : decode cX9_next 34 = .ok (.goto 9, 3) := by decide +kernel
theorem dX9_next_37 : decode cX9_next 37 = .ok (.aload_n 0, 1) := by decide +kernel
theorem dX9_next_38 : decode cX9_next 38 = .ok (.iload 4, 2) := by decide +kernel
theorem dX9_next_40 : decode cX9_next 40 = .ok (.invokevirtual 69, 3) := by decide +kernel
theorem dX9_next_43 : decode cX9_next 43 = .ok (.ireturn, 1) := by decide +kernel
theorem dX9_alikeFirst_0 : decode cX9_alikeFirst 0 = .ok (.aload_n 0, 1) := by decide +kernel
theorem dX9_alikeFirst_1 : decode cX9_alikeFirst 1 = .ok (.getfield 10, 3) := by decide +kernel
theorem dX9_alikeFirst_4 : decode cX9_alikeFirst 4 = .ok (.iload_n 1, 1) := by decide +kernel
theorem dX9_alikeFirst_5 : decode cX9_alikeFirst 5 = .ok (.invokevirtual 180, 3) := by decide +kernel
theorem dX9_alikeFirst_8 : decode cX9_alikeFirst 8 = .ok (.ifCond .eq 14, 3) := by decide +kernel
theorem dX9_alikeFirst_11 : decode cX9_alikeFirst 11 = .ok (.aload_n 0, 1) := by decide +kernel
theorem dX9_alikeFirst_12 : decode cX9_alikeFirst 12 = .ok (.getfield 10, 3) := by decide +kernel
theorem dX9_alikeFirst_15 : decode cX9_alikeFirst 15 = .ok (.iload_n 2, 1) := by decide +kernel
theorem dX9_alikeFirst_16 : decode cX9_alikeFirst 16 = .ok (.invokevirtual 180, 3) := by decide +kernel
theorem dX9_alikeFirst_19 : decode cX9_alikeFirst 19 = .ok (.ifCond .ne 10, 3) := by decide +kernel
theorem dX9_alikeFirst_22 : decode cX9_alikeFirst 22 = .ok (.aload_n 0, 1) := by decide +kernel
theorem dX9_alikeFirst_23 : decode cX9_alikeFirst 23 = .ok (.bipush (-2), 2) := by decide +kernel
theorem dX9_alikeFirst_25 : decode cX9_alikeFirst 25 = .ok (.invokevirtual 69, 3) := by decide +kernel
theorem dX9_alikeFirst_28 : decode cX9_alikeFirst 28 = .ok (.ireturn, 1) := by decide +kernel
theorem dX9_alikeFirst_29 : decode cX9_alikeFirst 29 = .ok (.aload_n 0, 1) := by decide +kernel
theorem dX9_alikeFirst_30 : decode cX9_alikeFirst 30 = .ok (.getfield 10, 3) := by decide +kernel
theorem dX9_alikeFirst_33 : decode cX9_alikeFirst 33 = .ok (.iload_n 1, 1) := by decide +kernel
theorem dX9_alikeFirst_34 : decode cX9_alikeFirst 34 = .ok (.iload_n 2, 1) := by decide +kernel
theorem dX9_alikeFirst_35 : decode cX9_alikeFirst 35 = .ok (.invokestatic 293, 3) := by decide +kernel
theorem dX9_alikeFirst_38 : decode cX9_alikeFirst 38 = .ok (.ireturn, 1) := by decide +kernel
theorem dX9_notes_0 : decode cX9_notes 0 = .ok (.iload_n 1, 1) := by decide +kernel
theorem dX9_notes_1 : decode cX9_notes 1 = .ok (.i2l, 1) := by decide +kernel
theorem dX9_notes_2 : decode cX9_notes 2 = .ok (.invokestatic 297, 3) := by decide +kernel
theorem dX9_notes_5 : decode cX9_notes 5 = .ok (.ifCond .eq 14, 3) := by decide +kernel
theorem dX9_notes_8 : decode cX9_notes 8 = .ok (.aload_n 0, 1) := by decide +kernel
theorem dX9_notes_9 : decode cX9_notes 9 = .ok (.getfield 10, 3) := by decide +kernel
theorem dX9_notes_12 : decode cX9_notes 12 = .ok (.iload_n 1, 1) := by decide +kernel
theorem dX9_notes_13 : decode cX9_notes 13 = .ok (.invokevirtual 301, 3) := by decide +kernel
theorem dX9_notes_16 : decode cX9_notes 16 = .ok (.goto 9, 3) := by decide +kernel
theorem dX9_notes_19 : decode cX9_notes 19 = .ok (.aload_n 0, 1) := by decide +kernel
theorem dX9_notes_20 : decode cX9_notes 20 = .ok (.bipush (-2), 2) := by decide +kernel
theorem dX9_notes_22 : decode cX9_notes 22 = .ok (.invokevirtual 69, 3) := by decide +kernel
theorem dX9_notes_25 : decode cX9_notes 25 = .ok (.ireturn, 1) := by decide +kernel
theorem dX9_twins_0 : decode cX9_twins 0 = .ok (.aload_n 0, 1) := by decide +kernel
theorem dX9_twins_1 : decode cX9_twins 1 = .ok (.getfield 10, 3) := by decide +kernel
theorem dX9_twins_4 : decode cX9_twins 4 = .ok (.invokestatic 304, 3) := by decide +kernel
theorem dX9_twins_7 : decode cX9_twins 7 = .ok (.ireturn, 1) := by decide +kernel
theorem dX9_change_0 : decode cX9_change 0 = .ok (.aload_n 0, 1) := by decide +kernel
theorem dX9_change_1 : decode cX9_change 1 = .ok (.getfield 10, 3) := by decide +kernel
theorem dX9_change_4 : decode cX9_change 4 = .ok (.iload_n 1, 1) := by decide +kernel
theorem dX9_change_5 : decode cX9_change 5 = .ok (.invokevirtual 180, 3) := by decide +kernel
theorem dX9_change_8 : decode cX9_change 8 = .ok (.ifCond .eq 10, 3) := by decide +kernel
theorem dX9_change_11 : decode cX9_change 11 = .ok (.iload_n 2, 1) := by decide +kernel
theorem dX9_change_12 : decode cX9_change 12 = .ok (.invokestatic 308, 3) := by decide +kernel
theorem dX9_change_15 : decode cX9_change 15 = .ok (.ifCond .ne 10, 3) := by decide +kernel
theorem dX9_change_18 : decode cX9_change 18 = .ok (.aload_n 0, 1) := by decide +kernel
theorem dX9_change_19 : decode cX9_change 19 = .ok (.bipush (-2), 2) := by decide +kernel
theorem dX9_change_21 : decode cX9_change 21 = .ok (.invokevirtual 69, 3) := by decide +kernel
theorem dX9_change_24 : decode cX9_change 24 = .ok (.ireturn, 1) := by decide +kernel
theorem dX9_change_25 : decode cX9_change 25 = .ok (.aload_n 0, 1) := by decide +kernel
theorem dX9_change_26 : decode cX9_change 26 = .ok (.getfield 10, 3) := by decide +kernel
theorem dX9_change_29 : decode cX9_change 29 = .ok (.iload_n 1, 1) := by decide +kernel
theorem dX9_change_30 : decode cX9_change 30 = .ok (.invokevirtual 220, 3) := by decide +kernel
theorem dX9_change_33 : decode cX9_change 33 = .ok (.iconst 5, 1) := by decide +kernel
theorem dX9_change_34 : decode cX9_change 34 = .ok (.if_icmp .le 10, 3) := by decide +kernel
theorem dX9_change_37 : decode cX9_change 37 = .ok (.aload_n 0, 1) := by decide +kernel
theorem dX9_change_38 : decode cX9_change 38 = .ok (.bipush (-5), 2) := by decide +kernel
theorem dX9_change_40 : decode cX9_change 40 = .ok (.invokevirtual 69, 3) := by decide +kernel
theorem dX9_change_43 : decode cX9_change 43 = .ok (.ireturn, 1) := by decide +kernel
theorem dX9_change_44 : decode cX9_change 44 = .ok (.aload_n 0, 1) := by decide +kernel
theorem dX9_change_45 : decode cX9_change 45 = .ok (.getfield 10, 3) := by decide +kernel
theorem dX9_change_48 : decode cX9_change 48 = .ok (.iload_n 1, 1) := by decide +kernel
theorem dX9_change_49 : decode cX9_change 49 = .ok (.iload_n 2, 1) := by decide +kernel
theorem dX9_change_50 : decode cX9_change 50 = .ok (.invokestatic 311, 3) := by decide +kernel
theorem dX9_change_53 : decode cX9_change 53 = .ok (.ireturn, 1) := by decide +kernel
theorem dX9_alike_0 : decode cX9_alike 0 = .ok (.iload_n 1, 1) := by decide +kernel
theorem dX9_alike_1 : decode cX9_alike 1 = .ok (.ifCond .lt 8, 3) := by decide +kernel
theorem dX9_alike_4 : decode cX9_alike 4 = .ok (.iload_n 1, 1) := by decide +kernel
theorem dX9_alike_5 : decode cX9_alike 5 = .ok (.iconst 1, 1) := by decide +kernel
theorem dX9_alike_6 : decode cX9_alike 6 = .ok (.if_icmp .le 10, 3) := by decide +kernel
theorem dX9_alike_9 : decode cX9_alike 9 = .ok (.aload_n 0, 1) := by decide +kernel
theorem dX9_alike_10 : decode cX9_alike 10 = .ok (.bipush (-2), 2) := by decide +kernel
theorem dX9_alike_12 : decode cX9_alike 12 = .ok (.invokevirtual 69, 3) := by decide +kernel
theorem dX9_alike_15 : decode cX9_alike 15 = .ok (.ireturn, 1) := by decide +kernel
theorem dX9_alike_16 : decode cX9_alike 16 = .ok (.aload_n 0, 1) := by decide +kernel
theorem dX9_alike_17 : decode cX9_alike 17 = .ok (.getfield 10, 3) := by decide +kernel
theorem dX9_alike_20 : decode cX9_alike 20 = .ok (.getfield 281, 3) := by decide +kernel
theorem dX9_alike_23 : decode cX9_alike 23 = .ok (.iconst 2, 1) := by decide +kernel
theorem dX9_alike_24 : decode cX9_alike 24 = .ok (.if_icmp .ge 10, 3) := by decide +kernel
theorem dX9_alike_27 : decode cX9_alike 27 = .ok (.aload_n 0, 1) := by decide +kernel
theorem dX9_alike_28 : decode cX9_alike 28 = .ok (.bipush (-5), 2) := by decide +kernel
theorem dX9_alike_30 : decode cX9_alike 30 = .ok (.invokevirtual 69, 3) := by decide +kernel
theorem dX9_alike_33 : decode cX9_alike 33 = .ok (.ireturn, 1) := by decide +kernel
theorem dX9_alike_34 : decode cX9_alike 34 = .ok (.aload_n 0, 1) := by decide +kernel
theorem dX9_alike_35 : decode cX9_alike 35 = .ok (.getfield 10, 3) := by decide +kernel
theorem dX9_alike_38 : decode cX9_alike 38 = .ok (.invokestatic 314, 3) := by decide +kernel
theorem dX9_alike_41 : decode cX9_alike 41 = .ok (.istore_n 2, 1) := by decide +kernel
theorem dX9_alike_42 : decode cX9_alike 42 = .ok (.iload_n 1, 1) := by decide +kernel
theorem dX9_alike_43 : decode cX9_alike 43 = .ok (.ifCond .ne 7, 3) := by decide +kernel
theorem dX9_alike_46 : decode cX9_alike 46 = .ok (.iload_n 2, 1) := by decide +kernel
theorem dX9_alike_47 : decode cX9_alike 47 = .ok (.goto 11, 3) := by decide +kernel
theorem dX9_alike_50 : decode cX9_alike 50 = .ok (.aload_n 0, 1) := by decide +kernel
theorem dX9_alike_51 : decode cX9_alike 51 = .ok (.getfield 10, 3) := by decide +kernel
theorem dX9_alike_54 : decode cX9_alike 54 = .ok (.iload_n 2, 1) := by decide +kernel
theorem dX9_alike_55 : decode cX9_alike 55 = .ok (.invokestatic 317, 3) := by decide +kernel
theorem dX9_alike_58 : decode cX9_alike 58 = .ok (.ireturn, 1) := by decide +kernel
theorem dX9_mixed_0 : decode cX9_mixed 0 = .ok (.aload_n 0, 1) := by decide +kernel
theorem dX9_mixed_1 : decode cX9_mixed 1 = .ok (.getfield 10, 3) := by decide +kernel
theorem dX9_mixed_4 : decode cX9_mixed 4 = .ok (.iload_n 1, 1) := by decide +kernel
theorem dX9_mixed_5 : decode cX9_mixed 5 = .ok (.invokevirtual 108, 3) := by decide +kernel
theorem dX9_mixed_8 : decode cX9_mixed 8 = .ok (.ifCond .eq 12, 3) := by decide +kernel
theorem dX9_mixed_11 : decode cX9_mixed 11 = .ok (.iload_n 2, 1) := by decide +kernel
theorem dX9_mixed_12 : decode cX9_mixed 12 = .ok (.ifCond .lt 8, 3) := by decide +kernel
theorem dX9_mixed_15 : decode cX9_mixed 15 = .ok (.iload_n 2, 1) := by decide +kernel
theorem dX9_mixed_16 : decode cX9_mixed 16 = .ok (.iconst 1, 1) := by decide +kernel
theorem dX9_mixed_17 : decode cX9_mixed 17 = .ok (.if_icmp .le 10, 3) := by decide +kernel
theorem dX9_mixed_20 : decode cX9_mixed 20 = .ok (.aload_n 0, 1) := by decide +kernel
theorem dX9_mixed_21 : decode cX9_mixed 21 = .ok (.bipush (-2), 2) := by decide +kernel
theorem dX9_mixed_23 : decode cX9_mixed 23 = .ok (.invokevirtual 69, 3) := by decide +kernel
theorem dX9_mixed_26 : decode cX9_mixed 26 = .ok (.ireturn, 1) := by decide +kernel
theorem dX9_mixed_27 : decode cX9_mixed 27 = .ok (.iload_n 2, 1) := by decide +kernel
theorem dX9_mixed_28 : decode cX9_mixed 28 = .ok (.ifCond .ne 18, 3) := by decide +kernel
theorem dX9_mixed_31 : decode cX9_mixed 31 = .ok (.aload_n 0, 1) := by decide +kernel
theorem dX9_mixed_32 : decode cX9_mixed 32 = .ok (.getfield 10, 3) := by decide +kernel
theorem dX9_mixed_35 : decode cX9_mixed 35 = .ok (.aload_n 0, 1) := by decide +kernel
theorem dX9_mixed_36 : decode cX9_mixed 36 = .ok (.getfield 43, 3) := by decide +kernel
theorem dX9_mixed_39 : decode cX9_mixed 39 = .ok (.iload_n 1, 1) := by decide +kernel
theorem dX9_mixed_40 : decode cX9_mixed 40 = .ok (.invokestatic 321, 3) := by decide +kernel
theorem dX9_mixed_43 : decode cX9_mixed 43 = .ok (.goto 15, 3) := by decide +kernel
theorem dX9_mixed_46 : decode cX9_mixed 46 = .ok (.aload_n 0, 1) := by decide +kernel
theorem dX9_mixed_47 : decode cX9_mixed 47 = .ok (.getfield 10, 3) := by decide +kernel
theorem dX9_mixed_50 : decode cX9_mixed 50 = .ok (.aload_n 0, 1) := by decide +kernel
theorem dX9_mixed_51 : decode cX9_mixed 51 = .ok (.getfield 43, 3) := by decide +kernel
theorem dX9_mixed_54 : decode cX9_mixed 54 = .ok (.iload_n 1, 1) := by decide +kernel
theorem dX9_mixed_55 : decode cX9_mixed 55 = .ok (.invokestatic 324, 3) := by decide +kernel
theorem dX9_mixed_58 : decode cX9_mixed 58 = .ok (.ireturn, 1) := by decide +kernel
theorem dX9_fresh_0 : decode cX9_fresh 0 = .ok (.iload_n 1, 1) := by decide +kernel
theorem dX9_fresh_1 : decode cX9_fresh 1 = .ok (.iconst 1, 1) := by decide +kernel
theorem dX9_fresh_2 : decode cX9_fresh 2 = .ok (.if_icmp .lt 15, 3) := by decide +kernel
theorem dX9_fresh_5 : decode cX9_fresh 5 = .ok (.iload_n 1, 1) := by decide +kernel
theorem dX9_fresh_6 : decode cX9_fresh 6 = .ok (.iconst 5, 1) := by decide +kernel
theorem dX9_fresh_7 : decode cX9_fresh 7 = .ok (.if_icmp .gt 10, 3) := by decide +kernel
theorem dX9_fresh_10 : decode cX9_fresh 10 = .ok (.iload_n 2, 1) := by decide +kernel
theorem dX9_fresh_11 : decode cX9_fresh 11 = .ok (.invokestatic 308, 3) := by decide +kernel
theorem dX9_fresh_14 : decode cX9_fresh 14 = .ok (.ifCond .ne 10, 3) := by decide +kernel
theorem dX9_fresh_17 : decode cX9_fresh 17 = .ok (.aload_n 0, 1) := by decide +kernel
theorem dX9_fresh_18 : decode cX9_fresh 18 = .ok (.bipush (-2), 2) := by decide +kernel
theorem dX9_fresh_20 : decode cX9_fresh 20 = .ok (.invokevirtual 69, 3) := by decide +kernel
theorem dX9_fresh_23 : decode cX9_fresh 23 = .ok (.ireturn, 1) := by decide +kernel
theorem dX9_fresh_24 : decode cX9_fresh 24 = .ok (.aload_n 0, 1) := by decide +kernel
theorem dX9_fresh_25 : decode cX9_fresh 25 = .ok (.getfield 10, 3) := by decide +kernel
theorem dX9_fresh_28 : decode cX9_fresh 28 = .ok (.iload_n 1, 1) := by decide +kernel
theorem dX9_fresh_29 : decode cX9_fresh 29 = .ok (.iload_n 2, 1) := by decide +kernel
theorem dX9_fresh_30 : decode cX9_fresh 30 = .ok (.invokestatic 327, 3) := by decide +kernel
theorem dX9_fresh_33 : decode cX9_fresh 33 = .ok (.ireturn, 1) := by decide +kernel
theorem dX9_keep_0 : decode cX9_keep 0 = .ok (.iload_n 1, 1) := by decide +kernel
theorem dX9_keep_1 : decode cX9_keep 1 = .ok (.invokestatic 308, 3) := by decide +kernel
theorem dX9_keep_4 : decode cX9_keep 4 = .ok (.ifCond .eq 18, 3) := by decide +kernel
theorem dX9_keep_7 : decode cX9_keep 7 = .ok (.aload_n 0, 1) := by decide +kernel
theorem dX9_keep_8 : decode cX9_keep 8 = .ok (.getfield 57, 3) := by decide +kernel
theorem dX9_keep_11 : decode cX9_keep 11 = .ok (.aload_n 0, 1) := by decide +kernel
theorem dX9_keep_12 : decode cX9_keep 12 = .ok (.getfield 10, 3) := by decide +kernel
theorem dX9_keep_15 : decode cX9_keep 15 = .ok (.iload_n 1, 1) := by decide +kernel
theorem dX9_keep_16 : decode cX9_keep 16 = .ok (.invokevirtual 330, 3) := by decide +kernel
theorem dX9_keep_19 : decode cX9_keep 19 = .ok (.goto 9, 3) := by decide +kernel
theorem dX9_keep_22 : decode cX9_keep 22 = .ok (.aload_n 0, 1) := by decide +kernel
theorem dX9_keep_23 : decode cX9_keep 23 = .ok (.bipush (-2), 2) := by decide +kernel
theorem dX9_keep_25 : decode cX9_keep 25 = .ok (.invokevirtual 69, 3) := by decide +kernel
theorem dX9_keep_28 : decode cX9_keep 28 = .ok (.ireturn, 1) := by decide +kernel
theorem dX9_does_0 : decode cX9_does 0 = .ok (.aload_n 0, 1) := by decide +kernel
theorem dX9_does_1 : decode cX9_does 1 = .ok (.getfield 10, 3) := by decide +kernel
theorem dX9_does_4 : decode cX9_does 4 = .ok (.iload_n 1, 1) := by decide +kernel
theorem dX9_does_5 : decode cX9_does 5 = .ok (.invokevirtual 180, 3) := by decide +kernel
theorem dX9_does_8 : decode cX9_does 8 = .ok (.ifCond .eq 14, 3) := by decide +kernel
theorem dX9_does_11 : decode cX9_does 11 = .ok (.aload_n 0, 1) := by decide +kernel
theorem dX9_does_12 : decode cX9_does 12 = .ok (.getfield 10, 3) := by decide +kernel
theorem dX9_does_15 : decode cX9_does 15 = .ok (.iload_n 2, 1) := by decide +kernel
theorem dX9_does_16 : decode cX9_does 16 = .ok (.invokevirtual 235, 3) := by decide +kernel
theorem dX9_does_19 : decode cX9_does 19 = .ok (.ifCond .ne 10, 3) := by decide +kernel
theorem dX9_does_22 : decode cX9_does 22 = .ok (.aload_n 0, 1) := by decide +kernel
theorem dX9_does_23 : decode cX9_does 23 = .ok (.bipush (-2), 2) := by decide +kernel
theorem dX9_does_25 : decode cX9_does 25 = .ok (.invokevirtual 69, 3) := by decide +kernel
theorem dX9_does_28 : decode cX9_does 28 = .ok (.ireturn, 1) := by decide +kernel
theorem dX9_does_29 : decode cX9_does 29 = .ok (.aload_n 0, 1) := by decide +kernel
theorem dX9_does_30 : decode cX9_does 30 = .ok (.getfield 50, 3) := by decide +kernel
theorem dX9_does_33 : decode cX9_does 33 = .ok (.aload_n 0, 1) := by decide +kernel
theorem dX9_does_34 : decode cX9_does 34 = .ok (.getfield 10, 3) := by decide +kernel
theorem dX9_does_37 : decode cX9_does 37 = .ok (.aload_n 0, 1) := by decide +kernel
theorem dX9_does_38 : decode cX9_does 38 = .ok (.getfield 43, 3) := by decide +kernel
theorem dX9_does_41 : decode cX9_does 41 = .ok (.iload_n 1, 1) := by decide +kernel
theorem dX9_does_42 : decode cX9_does 42 = .ok (.invokevirtual 333, 3) := by decide +kernel
theorem dX9_does_45 : decode cX9_does 45 = .ok (.aload_n 0, 1) := by decide +kernel
theorem dX9_does_46 : decode cX9_does 46 = .ok (.getfield 50, 3) := by decide +kernel
theorem dX9_does_49 : decode cX9_does 49 = .ok (.iload_n 2, 1) := by decide +kernel
theorem dX9_does_50 : decode cX9_does 50 = .ok (.invokevirtual 337, 3) := by decide +kernel
theorem dX9_does_53 : decode cX9_does 53 = .ok (.ireturn, 1) := by decide +kernel
theorem dX9_right_0 : decode cX9_right 0 = .ok (.aload_n 0, 1) := by decide +kernel
theorem dX9_right_1 : decode cX9_right 1 = .ok (.getfield 10, 3) := by decide +kernel
theorem dX9_right_4 : decode cX9_right 4 = .ok (.iload_n 1, 1) := by decide +kernel
theorem dX9_right_5 : decode cX9_right 5 = .ok (.invokevirtual 180, 3) := by decide +kernel
theorem dX9_right_8 : decode cX9_right 8 = .ok (.ifCond .ne 10, 3) := by decide +kernel
theorem dX9_right_11 : decode cX9_right 11 = .ok (.aload_n 0, 1) := by decide +kernel
theorem dX9_right_12 : decode cX9_right 12 = .ok (.bipush (-2), 2) := by decide +kernel
theorem dX9_right_14 : decode cX9_right 14 = .ok (.invokevirtual 69, 3) := by decide +kernel
theorem dX9_right_17 : decode cX9_right 17 = .ok (.ireturn, 1) := by decide +kernel
theorem dX9_right_18 : decode cX9_right 18 = .ok (.aload_n 0, 1) := by decide +kernel
theorem dX9_right_19 : decode cX9_right 19 = .ok (.getfield 50, 3) := by decide +kernel
theorem dX9_right_22 : decode cX9_right 22 = .ok (.aload_n 0, 1) := by decide +kernel
theorem dX9_right_23 : decode cX9_right 23 = .ok (.getfield 10, 3) := by decide +kernel
theorem dX9_right_26 : decode cX9_right 26 = .ok (.aload_n 0, 1) := by decide +kernel
theorem dX9_right_27 : decode cX9_right 27 = .ok (.getfield 43, 3) := by decide +kernel
theorem dX9_right_30 : decode cX9_right 30 = .ok (.iload_n 1, 1) := by decide +kernel
theorem dX9_right_31 : decode cX9_right 31 = .ok (.invokevirtual 333, 3) := by decide +kernel
theorem dX9_right_34 : decode cX9_right 34 = .ok (.aload_n 0, 1) := by decide +kernel
theorem dX9_right_35 : decode cX9_right 35 = .ok (.getfield 50, 3) := by decide +kernel
theorem dX9_right_38 : decode cX9_right 38 = .ok (.iload_n 1, 1) := by decide +kernel
theorem dX9_right_39 : decode cX9_right 39 = .ok (.invokevirtual 340, 3) := by decide +kernel
theorem dX9_right_42 : decode cX9_right 42 = .ok (.ireturn, 1) := by decide +kernel
theorem dX9_leads_0 : decode cX9_leads 0 = .ok (.aload_n 0, 1) := by decide +kernel
theorem dX9_leads_1 : decode cX9_leads 1 = .ok (.getfield 10, 3) := by decide +kernel
theorem dX9_leads_4 : decode cX9_leads 4 = .ok (.iload_n 1, 1) := by decide +kernel
theorem dX9_leads_5 : decode cX9_leads 5 = .ok (.invokevirtual 180, 3) := by decide +kernel
theorem dX9_leads_8 : decode cX9_leads 8 = .ok (.ifCond .ne 10, 3) := by decide +kernel
theorem dX9_leads_11 : decode cX9_leads 11 = .ok (.aload_n 0, 1) := by decide +kernel
theorem dX9_leads_12 : decode cX9_leads 12 = .ok (.bipush (-2), 2) := by decide +kernel
theorem dX9_leads_14 : decode cX9_leads 14 = .ok (.invokevirtual 69, 3) := by decide +kernel
theorem dX9_leads_17 : decode cX9_leads 17 = .ok (.ireturn, 1) := by decide +kernel
theorem dX9_leads_18 : decode cX9_leads 18 = .ok (.aload_n 0, 1) := by decide +kernel
theorem dX9_leads_19 : decode cX9_leads 19 = .ok (.getfield 50, 3) := by decide +kernel
theorem dX9_leads_22 : decode cX9_leads 22 = .ok (.aload_n 0, 1) := by decide +kernel
theorem dX9_leads_23 : decode cX9_leads 23 = .ok (.getfield 10, 3) := by decide +kernel
theorem dX9_leads_26 : decode cX9_leads 26 = .ok (.aload_n 0, 1) := by decide +kernel
theorem dX9_leads_27 : decode cX9_leads 27 = .ok (.getfield 43, 3) := by decide +kernel
theorem dX9_leads_30 : decode cX9_leads 30 = .ok (.iload_n 1, 1) := by decide +kernel
theorem dX9_leads_31 : decode cX9_leads 31 = .ok (.invokevirtual 333, 3) := by decide +kernel
theorem dX9_leads_34 : decode cX9_leads 34 = .ok (.aload_n 0, 1) := by decide +kernel
theorem dX9_leads_35 : decode cX9_leads 35 = .ok (.getfield 50, 3) := by decide +kernel
theorem dX9_leads_38 : decode cX9_leads 38 = .ok (.iload_n 1, 1) := by decide +kernel
theorem dX9_leads_39 : decode cX9_leads 39 = .ok (.invokevirtual 343, 3) := by decide +kernel
theorem dX9_leads_42 : decode cX9_leads 42 = .ok (.ireturn, 1) := by decide +kernel
theorem dX9_follows_0 : decode cX9_follows 0 = .ok (.aload_n 0, 1) := by decide +kernel
theorem dX9_follows_1 : decode cX9_follows 1 = .ok (.getfield 10, 3) := by decide +kernel
theorem dX9_follows_4 : decode cX9_follows 4 = .ok (.iload_n 1, 1) := by decide +kernel
theorem dX9_follows_5 : decode cX9_follows 5 = .ok (.invokevirtual 180, 3) := by decide +kernel
theorem dX9_follows_8 : decode cX9_follows 8 = .ok (.ifCond .ne 10, 3) := by decide +kernel
theorem dX9_follows_11 : decode cX9_follows 11 = .ok (.aload_n 0, 1) := by decide +kernel
theorem dX9_follows_12 : decode cX9_follows 12 = .ok (.bipush (-2), 2) := by decide +kernel
theorem dX9_follows_14 : decode cX9_follows 14 = .ok (.invokevirtual 69, 3) := by decide +kernel
theorem dX9_follows_17 : decode cX9_follows 17 = .ok (.ireturn, 1) := by decide +kernel
theorem dX9_follows_18 : decode cX9_follows 18 = .ok (.aload_n 0, 1) := by decide +kernel
theorem dX9_follows_19 : decode cX9_follows 19 = .ok (.getfield 50, 3) := by decide +kernel
theorem dX9_follows_22 : decode cX9_follows 22 = .ok (.aload_n 0, 1) := by decide +kernel
theorem dX9_follows_23 : decode cX9_follows 23 = .ok (.getfield 10, 3) := by decide +kernel
theorem dX9_follows_26 : decode cX9_follows 26 = .ok (.aload_n 0, 1) := by decide +kernel
theorem dX9_follows_27 : decode cX9_follows 27 = .ok (.getfield 43, 3) := by decide +kernel
theorem dX9_follows_30 : decode cX9_follows 30 = .ok (.iload_n 1, 1) := by decide +kernel
theorem dX9_follows_31 : decode cX9_follows 31 = .ok (.invokevirtual 333, 3) := by decide +kernel
theorem dX9_follows_34 : decode cX9_follows 34 = .ok (.aload_n 0, 1) := by decide +kernel
theorem dX9_follows_35 : decode cX9_follows 35 = .ok (.getfield 50, 3) := by decide +kernel
theorem dX9_follows_38 : decode cX9_follows 38 = .ok (.invokevirtual 346, 3) := by decide +kernel
theorem dX9_follows_41 : decode cX9_follows 41 = .ok (.ireturn, 1) := by decide +kernel
theorem dX9_sureFor_0 : decode cX9_sureFor 0 = .ok (.aload_n 0, 1) := by decide +kernel
theorem dX9_sureFor_1 : decode cX9_sureFor 1 = .ok (.getfield 10, 3) := by decide +kernel
theorem dX9_sureFor_4 : decode cX9_sureFor 4 = .ok (.iload_n 1, 1) := by decide +kernel
theorem dX9_sureFor_5 : decode cX9_sureFor 5 = .ok (.invokevirtual 180, 3) := by decide +kernel
theorem dX9_sureFor_8 : decode cX9_sureFor 8 = .ok (.ifCond .eq 22, 3) := by decide +kernel
theorem dX9_sureFor_11 : decode cX9_sureFor 11 = .ok (.aload_n 0, 1) := by decide +kernel
theorem dX9_sureFor_12 : decode cX9_sureFor 12 = .ok (.getfield 50, 3) := by decide +kernel
theorem dX9_sureFor_15 : decode cX9_sureFor 15 = .ok (.aload_n 0, 1) := by decide +kernel
theorem dX9_sureFor_16 : decode cX9_sureFor 16 = .ok (.getfield 10, 3) := by decide +kernel
theorem dX9_sureFor_19 : decode cX9_sureFor 19 = .ok (.aload_n 0, 1) := by decide +kernel
theorem dX9_sureFor_20 : decode cX9_sureFor 20 = .ok (.getfield 43, 3) := by decide +kernel
theorem dX9_sureFor_23 : decode cX9_sureFor 23 = .ok (.iload_n 1, 1) := by decide +kernel
theorem dX9_sureFor_24 : decode cX9_sureFor 24 = .ok (.invokevirtual 349, 3) := by decide +kernel
theorem dX9_sureFor_27 : decode cX9_sureFor 27 = .ok (.goto 9, 3) := by decide +kernel
theorem dX9_sureFor_30 : decode cX9_sureFor 30 = .ok (.aload_n 0, 1) := by decide +kernel
theorem dX9_sureFor_31 : decode cX9_sureFor 31 = .ok (.bipush (-2), 2) := by decide +kernel
theorem dX9_sureFor_33 : decode cX9_sureFor 33 = .ok (.invokevirtual 69, 3) := by decide +kernel
theorem dX9_sureFor_36 : decode cX9_sureFor 36 = .ok (.ireturn, 1) := by decide +kernel
theorem dX9_risk_0 : decode cX9_risk 0 = .ok (.aload_n 0, 1) := by decide +kernel
theorem dX9_risk_1 : decode cX9_risk 1 = .ok (.getfield 10, 3) := by decide +kernel
theorem dX9_risk_4 : decode cX9_risk 4 = .ok (.iload_n 1, 1) := by decide +kernel
theorem dX9_risk_5 : decode cX9_risk 5 = .ok (.invokevirtual 180, 3) := by decide +kernel
theorem dX9_risk_8 : decode cX9_risk 8 = .ok (.ifCond .eq 14, 3) := by decide +kernel
theorem dX9_risk_11 : decode cX9_risk 11 = .ok (.aload_n 0, 1) := by decide +kernel
theorem dX9_risk_12 : decode cX9_risk 12 = .ok (.getfield 10, 3) := by decide +kernel
theorem dX9_risk_15 : decode cX9_risk 15 = .ok (.iload_n 2, 1) := by decide +kernel
theorem dX9_risk_16 : decode cX9_risk 16 = .ok (.invokevirtual 108, 3) := by decide +kernel
theorem dX9_risk_19 : decode cX9_risk 19 = .ok (.ifCond .ne 10, 3) := by decide +kernel
theorem dX9_risk_22 : decode cX9_risk 22 = .ok (.aload_n 0, 1) := by decide +kernel
theorem dX9_risk_23 : decode cX9_risk 23 = .ok (.bipush (-2), 2) := by decide +kernel
theorem dX9_risk_25 : decode cX9_risk 25 = .ok (.invokevirtual 69, 3) := by decide +kernel
theorem dX9_risk_28 : decode cX9_risk 28 = .ok (.ireturn, 1) := by decide +kernel
theorem dX9_risk_29 : decode cX9_risk 29 = .ok (.aload_n 0, 1) := by decide +kernel
theorem dX9_risk_30 : decode cX9_risk 30 = .ok (.getfield 10, 3) := by decide +kernel
theorem dX9_risk_33 : decode cX9_risk 33 = .ok (.aload_n 0, 1) := by decide +kernel
theorem dX9_risk_34 : decode cX9_risk 34 = .ok (.getfield 43, 3) := by decide +kernel
theorem dX9_risk_37 : decode cX9_risk 37 = .ok (.iload_n 1, 1) := by decide +kernel
theorem dX9_risk_38 : decode cX9_risk 38 = .ok (.iload_n 2, 1) := by decide +kernel
theorem dX9_risk_39 : decode cX9_risk 39 = .ok (.invokestatic 352, 3) := by decide +kernel
theorem dX9_risk_42 : decode cX9_risk 42 = .ok (.ireturn, 1) := by decide +kernel
theorem dX9_learn_0 : decode cX9_learn 0 = .ok (.iload_n 1, 1) := by decide +kernel
theorem dX9_learn_1 : decode cX9_learn 1 = .ok (.ifCond .lt 25, 3) := by decide +kernel
theorem dX9_learn_4 : decode cX9_learn 4 = .ok (.iload_n 1, 1) := by decide +kernel
theorem dX9_learn_5 : decode cX9_learn 5 = .ok (.aload_n 0, 1) := by decide +kernel
theorem dX9_learn_6 : decode cX9_learn 6 = .ok (.getfield 10, 3) := by decide +kernel
theorem dX9_learn_9 : decode cX9_learn 9 = .ok (.getfield 281, 3) := by decide +kernel
theorem dX9_learn_12 : decode cX9_learn 12 = .ok (.if_icmp .ge 14, 3) := by decide +kernel
theorem dX9_learn_15 : decode cX9_learn 15 = .ok (.aload_n 0, 1) := by decide +kernel
theorem dX9_learn_16 : decode cX9_learn 16 = .ok (.getfield 10, 3) := by decide +kernel
theorem dX9_learn_19 : decode cX9_learn 19 = .ok (.iload_n 1, 1) := by decide +kernel
theorem dX9_learn_20 : decode cX9_learn 20 = .ok (.invokevirtual 355, 3) := by decide +kernel
theorem dX9_learn_23 : decode cX9_learn 23 = .ok (.goto 9, 3) := by decide +kernel
theorem dX9_learn_26 : decode cX9_learn 26 = .ok (.aload_n 0, 1) := by decide +kernel
theorem dX9_learn_27 : decode cX9_learn 27 = .ok (.bipush (-2), 2) := by decide +kernel
theorem dX9_learn_29 : decode cX9_learn 29 = .ok (.invokevirtual 69, 3) := by decide +kernel
theorem dX9_learn_32 : decode cX9_learn 32 = .ok (.ireturn, 1) := by decide +kernel
theorem dX9_nearest_0 : decode cX9_nearest 0 = .ok (.aload_n 0, 1) := by decide +kernel
theorem dX9_nearest_1 : decode cX9_nearest 1 = .ok (.iload_n 1, 1) := by decide +kernel
theorem dX9_nearest_2 : decode cX9_nearest 2 = .ok (.iload_n 2, 1) := by decide +kernel
theorem dX9_nearest_3 : decode cX9_nearest 3 = .ok (.iconst 1, 1) := by decide +kernel
theorem dX9_nearest_4 : decode cX9_nearest 4 = .ok (.iload_n 3, 1) := by decide +kernel
theorem dX9_nearest_5 : decode cX9_nearest 5 = .ok (.ifCond .eq 8, 3) := by decide +kernel
theorem dX9_nearest_8 : decode cX9_nearest 8 = .ok (.iload_n 3, 1) := by decide +kernel
theorem dX9_nearest_9 : decode cX9_nearest 9 = .ok (.iconst 1, 1) := by decide +kernel
theorem dX9_nearest_10 : decode cX9_nearest 10 = .ok (.if_icmp .ne 7, 3) := by decide +kernel
theorem dX9_nearest_13 : decode cX9_nearest 13 = .ok (.iconst 1, 1) := by decide +kernel
theorem dX9_nearest_14 : decode cX9_nearest 14 = .ok (.goto 4, 3) := by decide +kernel
theorem dX9_nearest_17 : decode cX9_nearest 17 = .ok (.iconst 0, 1) := by decide +kernel
theorem dX9_nearest_18 : decode cX9_nearest 18 = .ok (.invokevirtual 250, 3) := by decide +kernel
theorem dX9_nearest_21 : decode cX9_nearest 21 = .ok (.istore 4, 2) := by decide +kernel
theorem dX9_nearest_23 : decode cX9_nearest 23 = .ok (.iload 4, 2) := by decide +kernel
theorem dX9_nearest_25 : decode cX9_nearest 25 = .ok (.ifCond .eq 10, 3) := by decide +kernel
theorem dX9_nearest_28 : decode cX9_nearest 28 = .ok (.aload_n 0, 1) := by decide +kernel
theorem dX9_nearest_29 : decode cX9_nearest 29 = .ok (.iload 4, 2) := by decide +kernel
theorem dX9_nearest_31 : decode cX9_nearest 31 = .ok (.invokevirtual 69, 3) := by decide +kernel
theorem dX9_nearest_34 : decode cX9_nearest 34 = .ok (.ireturn, 1) := by decide +kernel
theorem dX9_nearest_35 : decode cX9_nearest 35 = .ok (.aload_n 0, 1) := by decide +kernel
theorem dX9_nearest_36 : decode cX9_nearest 36 = .ok (.getfield 10, 3) := by decide +kernel
theorem dX9_nearest_39 : decode cX9_nearest 39 = .ok (.getfield 281, 3) := by decide +kernel
theorem dX9_nearest_42 : decode cX9_nearest 42 = .ok (.ifCond .ne 10, 3) := by decide +kernel
theorem dX9_nearest_45 : decode cX9_nearest 45 = .ok (.aload_n 0, 1) := by decide +kernel
theorem dX9_nearest_46 : decode cX9_nearest 46 = .ok (.bipush (-5), 2) := by decide +kernel
theorem dX9_nearest_48 : decode cX9_nearest 48 = .ok (.invokevirtual 69, 3) := by decide +kernel
theorem dX9_nearest_51 : decode cX9_nearest 51 = .ok (.ireturn, 1) := by decide +kernel
theorem dX9_nearest_52 : decode cX9_nearest 52 = .ok (.aload_n 0, 1) := by decide +kernel
theorem dX9_nearest_53 : decode cX9_nearest 53 = .ok (.getfield 10, 3) := by decide +kernel
theorem dX9_nearest_56 : decode cX9_nearest 56 = .ok (.aload_n 0, 1) := by decide +kernel
theorem dX9_nearest_57 : decode cX9_nearest 57 = .ok (.getfield 43, 3) := by decide +kernel
theorem dX9_nearest_60 : decode cX9_nearest 60 = .ok (.invokestatic 358, 3) := by decide +kernel
theorem dX9_nearest_63 : decode cX9_nearest 63 = .ok (.istore 5, 2) := by decide +kernel
theorem dX9_nearest_65 : decode cX9_nearest 65 = .ok (.iload_n 3, 1) := by decide +kernel
theorem dX9_nearest_66 : decode cX9_nearest 66 = .ok (.ifCond .ne 8, 3) := by decide +kernel
theorem dX9_nearest_69 : decode cX9_nearest 69 = .ok (.iload 5, 2) := by decide +kernel
theorem dX9_nearest_71 : decode cX9_nearest 71 = .ok (.goto 16, 3) := by decide +kernel
theorem dX9_nearest_74 : decode cX9_nearest 74 = .ok (.aload_n 0, 1) := by decide +kernel
theorem dX9_nearest_75 : decode cX9_nearest 75 = .ok (.getfield 10, 3) := by decide +kernel
theorem dX9_nearest_78 : decode cX9_nearest 78 = .ok (.aload_n 0, 1) := by decide +kernel
theorem dX9_nearest_79 : decode cX9_nearest 79 = .ok (.getfield 43, 3) := by decide +kernel
theorem dX9_nearest_82 : decode cX9_nearest 82 = .ok (.iload 5, 2) := by decide +kernel
theorem dX9_nearest_84 : decode cX9_nearest 84 = .ok (.invokestatic 362, 3) := by decide +kernel
theorem dX9_nearest_87 : decode cX9_nearest 87 = .ok (.ireturn, 1) := by decide +kernel
theorem dX9_judge_0 : decode cX9_judge 0 = .ok (.aload_n 0, 1) := by decide +kernel
theorem dX9_judge_1 : decode cX9_judge 1 = .ok (.iload_n 1, 1) := by decide +kernel
theorem dX9_judge_2 : decode cX9_judge 2 = .ok (.invokevirtual 65, 3) := by decide +kernel
theorem dX9_judge_5 : decode cX9_judge 5 = .ok (.astore_n 3, 1) := by decide +kernel
theorem dX9_judge_6 : decode cX9_judge 6 = .ok (.aload_n 3, 1) := by decide +kernel
theorem dX9_judge_7 : decode cX9_judge 7 = .ok (.ifnull 13, 3) := by decide +kernel
theorem dX9_judge_10 : decode cX9_judge 10 = .ok (.iload_n 2, 1) := by decide +kernel
theorem dX9_judge_11 : decode cX9_judge 11 = .ok (.ifCond .lt 9, 3) := by decide +kernel
theorem dX9_judge_14 : decode cX9_judge 14 = .ok (.iload_n 2, 1) := by decide +kernel
theorem dX9_judge_15 : decode cX9_judge 15 = .ok (.bipush 40, 2) := by decide +kernel
theorem dX9_judge_17 : decode cX9_judge 17 = .ok (.if_icmp .le 10, 3) := by decide +kernel
theorem dX9_judge_20 : decode cX9_judge 20 = .ok (.aload_n 0, 1) := by decide +kernel
theorem dX9_judge_21 : decode cX9_judge 21 = .ok (.bipush (-2), 2) := by decide +kernel
theorem dX9_judge_23 : decode cX9_judge 23 = .ok (.invokevirtual 69, 3) := by decide +kernel
theorem dX9_judge_26 : decode cX9_judge 26 = .ok (.ireturn, 1) := by decide +kernel
theorem dX9_judge_27 : decode cX9_judge 27 = .ok (.aload_n 3, 1) := by decide +kernel
theorem dX9_judge_28 : decode cX9_judge 28 = .ok (.invokevirtual 77, 3) := by decide +kernel
theorem dX9_judge_31 : decode cX9_judge 31 = .ok (.istore 4, 2) := by decide +kernel
theorem dX9_judge_33 : decode cX9_judge 33 = .ok (.iload 4, 2) := by decide +kernel
theorem dX9_judge_35 : decode cX9_judge 35 = .ok (.ifCond .eq 10, 3) := by decide +kernel
theorem dX9_judge_38 : decode cX9_judge 38 = .ok (.aload_n 0, 1) := by decide +kernel
theorem dX9_judge_39 : decode cX9_judge 39 = .ok (.iload 4, 2) := by decide +kernel
theorem dX9_judge_41 : decode cX9_judge 41 = .ok (.invokevirtual 69, 3) := by decide +kernel
theorem dX9_judge_44 : decode cX9_judge 44 = .ok (.ireturn, 1) := by decide +kernel
theorem dX9_judge_45 : decode cX9_judge 45 = .ok (.iload_n 2, 1) := by decide +kernel
theorem dX9_judge_46 : decode cX9_judge 46 = .ok (.aload_n 3, 1) := by decide +kernel
theorem dX9_judge_47 : decode cX9_judge 47 = .ok (.getfield 146, 3) := by decide +kernel
theorem dX9_judge_50 : decode cX9_judge 50 = .ok (.if_icmp .gt 11, 3) := by decide +kernel
theorem dX9_judge_53 : decode cX9_judge 53 = .ok (.aload_n 3, 1) := by decide +kernel
theorem dX9_judge_54 : decode cX9_judge 54 = .ok (.iload_n 2, 1) := by decide +kernel
theorem dX9_judge_55 : decode cX9_judge 55 = .ok (.invokevirtual 365, 3) := by decide +kernel
theorem dX9_judge_58 : decode cX9_judge 58 = .ok (.goto 9, 3) := by decide +kernel
theorem dX9_judge_61 : decode cX9_judge 61 = .ok (.aload_n 0, 1) := by decide +kernel
theorem dX9_judge_62 : decode cX9_judge 62 = .ok (.bipush (-2), 2) := by decide +kernel
theorem dX9_judge_64 : decode cX9_judge 64 = .ok (.invokevirtual 69, 3) := by decide +kernel
theorem dX9_judge_67 : decode cX9_judge 67 = .ok (.ireturn, 1) := by decide +kernel
theorem dX9_when_0 : decode cX9_when 0 = .ok (.aload_n 0, 1) := by decide +kernel
theorem dX9_when_1 : decode cX9_when 1 = .ok (.iload_n 1, 1) := by decide +kernel
theorem dX9_when_2 : decode cX9_when 2 = .ok (.iload_n 2, 1) := by decide +kernel
theorem dX9_when_3 : decode cX9_when 3 = .ok (.iconst 0, 1) := by decide +kernel
theorem dX9_when_4 : decode cX9_when 4 = .ok (.aload_n 0, 1) := by decide +kernel
theorem dX9_when_5 : decode cX9_when 5 = .ok (.getfield 10, 3) := by decide +kernel
theorem dX9_when_8 : decode cX9_when 8 = .ok (.iload_n 3, 1) := by decide +kernel
theorem dX9_when_9 : decode cX9_when 9 = .ok (.invokevirtual 108, 3) := by decide +kernel
theorem dX9_when_12 : decode cX9_when 12 = .ok (.invokevirtual 250, 3) := by decide +kernel
theorem dX9_when_15 : decode cX9_when 15 = .ok (.istore 4, 2) := by decide +kernel
theorem dX9_when_17 : decode cX9_when 17 = .ok (.iload 4, 2) := by decide +kernel
theorem dX9_when_19 : decode cX9_when 19 = .ok (.ifCond .ne 18, 3) := by decide +kernel
theorem dX9_when_22 : decode cX9_when 22 = .ok (.aload_n 0, 1) := by decide +kernel
theorem dX9_when_23 : decode cX9_when 23 = .ok (.getfield 10, 3) := by decide +kernel
theorem dX9_when_26 : decode cX9_when 26 = .ok (.aload_n 0, 1) := by decide +kernel
theorem dX9_when_27 : decode cX9_when 27 = .ok (.getfield 43, 3) := by decide +kernel
theorem dX9_when_30 : decode cX9_when 30 = .ok (.iload_n 3, 1) := by decide +kernel
theorem dX9_when_31 : decode cX9_when 31 = .ok (.invokestatic 368, 3) := by decide +kernel
theorem dX9_when_34 : decode cX9_when 34 = .ok (.goto 9, 3) := by decide +kernel
theorem dX9_when_37 : decode cX9_when 37 = .ok (.aload_n 0, 1) := by decide +kernel
theorem dX9_when_38 : decode cX9_when 38 = .ok (.iload 4, 2) := by decide +kernel
theorem dX9_when_40 : decode cX9_when 40 = .ok (.invokevirtual 69, 3) := by decide +kernel
theorem dX9_when_43 : decode cX9_when 43 = .ok (.ireturn, 1) := by decide +kernel
theorem dX9_sound_0 : decode cX9_sound 0 = .ok (.aload_n 0, 1) := by decide +kernel
theorem dX9_sound_1 : decode cX9_sound 1 = .ok (.iload_n 2, 1) := by decide +kernel
theorem dX9_sound_2 : decode cX9_sound 2 = .ok (.invokevirtual 65, 3) := by decide +kernel
theorem dX9_sound_5 : decode cX9_sound 5 = .ok (.astore_n 3, 1) := by decide +kernel
theorem dX9_sound_6 : decode cX9_sound 6 = .ok (.aload_n 0, 1) := by decide +kernel
theorem dX9_sound_7 : decode cX9_sound 7 = .ok (.getfield 10, 3) := by decide +kernel
theorem dX9_sound_10 : decode cX9_sound 10 = .ok (.iload_n 1, 1) := by decide +kernel
theorem dX9_sound_11 : decode cX9_sound 11 = .ok (.invokevirtual 180, 3) := by decide +kernel
theorem dX9_sound_14 : decode cX9_sound 14 = .ok (.ifCond .eq 7, 3) := by decide +kernel
theorem dX9_sound_17 : decode cX9_sound 17 = .ok (.aload_n 3, 1) := by decide +kernel
theorem dX9_sound_18 : decode cX9_sound 18 = .ok (.ifnonnull 10, 3) := by decide +kernel
theorem dX9_sound_21 : decode cX9_sound 21 = .ok (.aload_n 0, 1) := by decide +kernel
theorem dX9_sound_22 : decode cX9_sound 22 = .ok (.bipush (-2), 2) := by decide +kernel
theorem dX9_sound_24 : decode cX9_sound 24 = .ok (.invokevirtual 69, 3) := by decide +kernel
theorem dX9_sound_27 : decode cX9_sound 27 = .ok (.ireturn, 1) := by decide +kernel
theorem dX9_sound_28 : decode cX9_sound 28 = .ok (.aload_n 0, 1) := by decide +kernel
theorem dX9_sound_29 : decode cX9_sound 29 = .ok (.getfield 43, 3) := by decide +kernel
theorem dX9_sound_32 : decode cX9_sound 32 = .ok (.aload_n 0, 1) := by decide +kernel
theorem dX9_sound_33 : decode cX9_sound 33 = .ok (.getfield 10, 3) := by decide +kernel
theorem dX9_sound_36 : decode cX9_sound 36 = .ok (.iload_n 1, 1) := by decide +kernel
theorem dX9_sound_37 : decode cX9_sound 37 = .ok (.invokevirtual 371, 3) := by decide +kernel
theorem dX9_sound_40 : decode cX9_sound 40 = .ok (.istore 4, 2) := by decide +kernel
theorem dX9_sound_42 : decode cX9_sound 42 = .ok (.aload_n 3, 1) := by decide +kernel
theorem dX9_sound_43 : decode cX9_sound 43 = .ok (.aload_n 0, 1) := by decide +kernel
theorem dX9_sound_44 : decode cX9_sound 44 = .ok (.getfield 43, 3) := by decide +kernel
theorem dX9_sound_47 : decode cX9_sound 47 = .ok (.invokevirtual 374, 3) := by decide +kernel
theorem dX9_sound_50 : decode cX9_sound 50 = .ok (.iload 4, 2) := by decide +kernel
theorem dX9_sound_52 : decode cX9_sound 52 = .ok (.ireturn, 1) := by decide +kernel
theorem dX9_days_0 : decode cX9_days 0 = .ok (.iload_n 1, 1) := by decide +kernel
theorem dX9_days_1 : decode cX9_days 1 = .ok (.iconst 1, 1) := by decide +kernel
theorem dX9_days_2 : decode cX9_days 2 = .ok (.if_icmp .lt 9, 3) := by decide +kernel
theorem dX9_days_5 : decode cX9_days 5 = .ok (.iload_n 1, 1) := by decide +kernel
theorem dX9_days_6 : decode cX9_days 6 = .ok (.bipush 99, 2) := by decide +kernel
theorem dX9_days_8 : decode cX9_days 8 = .ok (.if_icmp .le 10, 3) := by decide +kernel
theorem dX9_days_11 : decode cX9_days 11 = .ok (.aload_n 0, 1) := by decide +kernel
theorem dX9_days_12 : decode cX9_days 12 = .ok (.bipush (-2), 2) := by decide +kernel
theorem dX9_days_14 : decode cX9_days 14 = .ok (.invokevirtual 69, 3) := by decide +kernel
theorem dX9_days_17 : decode cX9_days 17 = .ok (.ireturn, 1) := by decide +kernel
theorem dX9_days_18 : decode cX9_days 18 = .ok (.aload_n 0, 1) := by decide +kernel
theorem dX9_days_19 : decode cX9_days 19 = .ok (.getfield 10, 3) := by decide +kernel
theorem dX9_days_22 : decode cX9_days 22 = .ok (.getfield 281, 3) := by decide +kernel
theorem dX9_days_25 : decode cX9_days 25 = .ok (.ifCond .ne 10, 3) := by decide +kernel
theorem dX9_days_28 : decode cX9_days 28 = .ok (.aload_n 0, 1) := by decide +kernel
theorem dX9_days_29 : decode cX9_days 29 = .ok (.bipush (-5), 2) := by decide +kernel
theorem dX9_days_31 : decode cX9_days 31 = .ok (.invokevirtual 69, 3) := by decide +kernel
theorem dX9_days_34 : decode cX9_days 34 = .ok (.ireturn, 1) := by decide +kernel
theorem dX9_days_35 : decode cX9_days 35 = .ok (.iconst 0, 1) := by decide +kernel
theorem dX9_days_36 : decode cX9_days 36 = .ok (.istore_n 2, 1) := by decide +kernel
theorem dX9_days_37 : decode cX9_days 37 = .ok (.iconst 0, 1) := by decide +kernel
theorem dX9_days_38 : decode cX9_days 38 = .ok (.istore_n 3, 1) := by decide +kernel
theorem dX9_days_39 : decode cX9_days 39 = .ok (.iload_n 3, 1) := by decide +kernel
theorem dX9_days_40 : decode cX9_days 40 = .ok (.iload_n 1, 1) := by decide +kernel
theorem dX9_days_41 : decode cX9_days 41 = .ok (.if_icmp .ge 58, 3) := by decide +kernel
theorem dX9_days_44 : decode cX9_days 44 = .ok (.aload_n 0, 1) := by decide +kernel
theorem dX9_days_45 : decode cX9_days 45 = .ok (.getfield 10, 3) := by decide +kernel
theorem dX9_days_48 : decode cX9_days 48 = .ok (.aload_n 0, 1) := by decide +kernel
theorem dX9_days_49 : decode cX9_days 49 = .ok (.getfield 10, 3) := by decide +kernel
theorem dX9_days_52 : decode cX9_days 52 = .ok (.getfield 281, 3) := by decide +kernel
theorem dX9_days_55 : decode cX9_days 55 = .ok (.invokevirtual 378, 3) := by decide +kernel
theorem dX9_days_58 : decode cX9_days 58 = .ok (.istore 4, 2) := by decide +kernel
theorem dX9_days_60 : decode cX9_days 60 = .ok (.aload_n 0, 1) := by decide +kernel
theorem dX9_days_61 : decode cX9_days 61 = .ok (.getfield 43, 3) := by decide +kernel
theorem dX9_days_64 : decode cX9_days 64 = .ok (.aload_n 0, 1) := by decide +kernel
theorem dX9_days_65 : decode cX9_days 65 = .ok (.getfield 10, 3) := by decide +kernel
theorem dX9_days_68 : decode cX9_days 68 = .ok (.iload 4, 2) := by decide +kernel
theorem dX9_days_70 : decode cX9_days 70 = .ok (.invokevirtual 371, 3) := by decide +kernel
theorem dX9_days_73 : decode cX9_days 73 = .ok (.pop, 1) := by decide +kernel
theorem dX9_days_74 : decode cX9_days 74 = .ok (.aload_n 0, 1) := by decide +kernel
theorem dX9_days_75 : decode cX9_days 75 = .ok (.getfield 10, 3) := by decide +kernel
theorem dX9_days_78 : decode cX9_days 78 = .ok (.aload_n 0, 1) := by decide +kernel
theorem dX9_days_79 : decode cX9_days 79 = .ok (.getfield 43, 3) := by decide +kernel
theorem dX9_days_82 : decode cX9_days 82 = .ok (.invokestatic 358, 3) := by decide +kernel
theorem dX9_days_85 : decode cX9_days 85 = .ok (.iload 4, 2) := by decide +kernel
theorem dX9_days_87 : decode cX9_days 87 = .ok (.if_icmp .eq 6, 3) := by decide +kernel
theorem dX9_days_90 : decode cX9_days 90 = .ok (.iinc 2 1, 3) := by decide +kernel
theorem dX9_days_93 : decode cX9_days 93 = .ok (.iinc 3 1, 3) := by decide +kernel
theorem dX9_days_96 : decode cX9_days 96 = .ok (.goto (-57), 3) := by decide +kernel
theorem dX9_days_99 : decode cX9_days 99 = .ok (.iload_n 2, 1) := by decide +kernel
theorem dX9_days_100 : decode cX9_days 100 = .ok (.ireturn, 1) := by decide +kernel
theorem dX9_drop_0 : decode cX9_drop 0 = .ok (.aload_n 0, 1) := by decide +kernel
theorem dX9_drop_1 : decode cX9_drop 1 = .ok (.getfield 10, 3) := by decide +kernel
theorem dX9_drop_4 : decode cX9_drop 4 = .ok (.getfield 281, 3) := by decide +kernel
theorem dX9_drop_7 : decode cX9_drop 7 = .ok (.ifCond .le 13, 3) := by decide +kernel
theorem dX9_drop_10 : decode cX9_drop 10 = .ok (.aload_n 0, 1) := by decide +kernel
theorem dX9_drop_11 : decode cX9_drop 11 = .ok (.getfield 10, 3) := by decide +kernel
theorem dX9_drop_14 : decode cX9_drop 14 = .ok (.invokevirtual 381, 3) := by decide +kernel
theorem dX9_drop_17 : decode cX9_drop 17 = .ok (.goto 9, 3) := by decide +kernel
theorem dX9_drop_20 : decode cX9_drop 20 = .ok (.aload_n 0, 1) := by decide +kernel
theorem dX9_drop_21 : decode cX9_drop 21 = .ok (.bipush (-5), 2) := by decide +kernel
theorem dX9_drop_23 : decode cX9_drop 23 = .ok (.invokevirtual 69, 3) := by decide +kernel
theorem dX9_drop_26 : decode cX9_drop 26 = .ok (.ireturn, 1) := by decide +kernel
theorem dX9_seed_0 : decode cX9_seed 0 = .ok (.aload_n 0, 1) := by decide +kernel
theorem dX9_seed_1 : decode cX9_seed 1 = .ok (.getfield 10, 3) := by decide +kernel
theorem dX9_seed_4 : decode cX9_seed 4 = .ok (.getfield 384, 3) := by decide +kernel
theorem dX9_seed_7 : decode cX9_seed 7 = .ok (.istore_n 2, 1) := by decide +kernel
theorem dX9_seed_8 : decode cX9_seed 8 = .ok (.aload_n 0, 1) := by decide +kernel
theorem dX9_seed_9 : decode cX9_seed 9 = .ok (.getfield 10, 3) := by decide +kernel
theorem dX9_seed_12 : decode cX9_seed 12 = .ok (.iload_n 1, 1) := by decide +kernel
theorem dX9_seed_13 : decode cX9_seed 13 = .ok (.putfield 384, 3) := by decide +kernel
theorem dX9_seed_16 : decode cX9_seed 16 = .ok (.iload_n 2, 1) := by decide +kernel
theorem dX9_seed_17 : decode cX9_seed 17 = .ok (.ireturn, 1) := by decide +kernel
theorem dX9_image_0 : decode cX9_image 0 = .ok (.aload_n 0, 1) := by decide +kernel
theorem dX9_image_1 : decode cX9_image 1 = .ok (.getfield 16, 3) := by decide +kernel
theorem dX9_image_4 : decode cX9_image 4 = .ok (.aload_n 0, 1) := by decide +kernel
theorem dX9_image_5 : decode cX9_image 5 = .ok (.getfield 10, 3) := by decide +kernel
theorem dX9_image_8 : decode cX9_image 8 = .ok (.invokevirtual 210, 3) := by decide +kernel
theorem dX9_image_11 : decode cX9_image 11 = .ok (.aload_n 0, 1) := by decide +kernel
theorem dX9_image_12 : decode cX9_image 12 = .ok (.iconst 1, 1) := by decide +kernel
theorem dX9_image_13 : decode cX9_image 13 = .ok (.putfield 22, 3) := by decide +kernel
theorem dX9_image_16 : decode cX9_image 16 = .ok (.iconst 1, 1) := by decide +kernel
theorem dX9_image_17 : decode cX9_image 17 = .ok (.ireturn, 1) := by decide +kernel
theorem dX9_back_0 : decode cX9_back 0 = .ok (.aload_n 0, 1) := by decide +kernel
theorem dX9_back_1 : decode cX9_back 1 = .ok (.getfield 22, 3) := by decide +kernel
theorem dX9_back_4 : decode cX9_back 4 = .ok (.ifCond .ne 10, 3) := by decide +kernel
theorem dX9_back_7 : decode cX9_back 7 = .ok (.aload_n 0, 1) := by decide +kernel
theorem dX9_back_8 : decode cX9_back 8 = .ok (.bipush (-5), 2) := by decide +kernel
theorem dX9_back_10 : decode cX9_back 10 = .ok (.invokevirtual 69, 3) := by decide +kernel
theorem dX9_back_13 : decode cX9_back 13 = .ok (.ireturn, 1) := by decide +kernel
theorem dX9_back_14 : decode cX9_back 14 = .ok (.aload_n 0, 1) := by decide +kernel
theorem dX9_back_15 : decode cX9_back 15 = .ok (.getfield 10, 3) := by decide +kernel
theorem dX9_back_18 : decode cX9_back 18 = .ok (.aload_n 0, 1) := by decide +kernel
theorem dX9_back_19 : decode cX9_back 19 = .ok (.getfield 16, 3) := by decide +kernel
theorem dX9_back_22 : decode cX9_back 22 = .ok (.invokevirtual 210, 3) := by decide +kernel
theorem dX9_back_25 : decode cX9_back 25 = .ok (.iconst 0, 1) := by decide +kernel
theorem dX9_back_26 : decode cX9_back 26 = .ok (.istore_n 1, 1) := by decide +kernel
theorem dX9_back_27 : decode cX9_back 27 = .ok (.iload_n 1, 1) := by decide +kernel
theorem dX9_back_28 : decode cX9_back 28 = .ok (.bipush 8, 2) := by decide +kernel
theorem dX9_back_30 : decode cX9_back 30 = .ok (.if_icmp .ge 44, 3) := by decide +kernel
theorem dX9_back_33 : decode cX9_back 33 = .ok (.aload_n 0, 1) := by decide +kernel
theorem dX9_back_34 : decode cX9_back 34 = .ok (.iload_n 1, 1) := by decide +kernel
theorem dX9_back_35 : decode cX9_back 35 = .ok (.invokevirtual 65, 3) := by decide +kernel
theorem dX9_back_38 : decode cX9_back 38 = .ok (.astore_n 2, 1) := by decide +kernel
theorem dX9_back_39 : decode cX9_back 39 = .ok (.aload_n 2, 1) := by decide +kernel
theorem dX9_back_40 : decode cX9_back 40 = .ok (.ifnull 28, 3) := by decide +kernel
theorem dX9_back_43 : decode cX9_back 43 = .ok (.aload_n 2, 1) := by decide +kernel
theorem dX9_back_44 : decode cX9_back 44 = .ok (.invokevirtual 89, 3) := by decide +kernel
theorem dX9_back_47 : decode cX9_back 47 = .ok (.ifCond .eq 21, 3) := by decide +kernel
theorem dX9_back_50 : decode cX9_back 50 = .ok (.aload_n 0, 1) := by decide +kernel
theorem dX9_back_51 : decode cX9_back 51 = .ok (.getfield 10, 3) := by decide +kernel
theorem dX9_back_54 : decode cX9_back 54 = .ok (.aload_n 2, 1) := by decide +kernel
theorem dX9_back_55 : decode cX9_back 55 = .ok (.invokevirtual 124, 3) := by decide +kernel
theorem dX9_back_58 : decode cX9_back 58 = .ok (.invokevirtual 108, 3) := by decide +kernel
theorem dX9_back_61 : decode cX9_back 61 = .ok (.ifCond .ne 7, 3) := by decide +kernel
theorem dX9_back_64 : decode cX9_back 64 = .ok (.aload_n 2, 1) := by decide +kernel
theorem dX9_back_65 : decode cX9_back 65 = .ok (.invokevirtual 112, 3) := by decide +kernel
theorem dX9_back_68 : decode cX9_back 68 = .ok (.iinc 1 1, 3) := by decide +kernel
theorem dX9_back_71 : decode cX9_back 71 = .ok (.goto (-44), 3) := by decide +kernel
theorem dX9_back_74 : decode cX9_back 74 = .ok (.iconst 1, 1) := by decide +kernel
theorem dX9_back_75 : decode cX9_back 75 = .ok (.ireturn, 1) := by decide +kernel
theorem dX9_status_0 : decode cX9_status 0 = .ok (.iload_n 1, 1) := by decide +kernel
theorem dX9_status_1 : decode cX9_status 1 = .ok (.tableswitch 144 0 10 #[59, 67, 75, 83, 91, 99, 107, 115, 123, 131, 136], 59) := by decide +kernel
theorem dX9_status_60 : decode cX9_status 60 = .ok (.aload_n 0, 1) := by decide +kernel
theorem dX9_status_61 : decode cX9_status 61 = .ok (.getfield 10, 3) := by decide +kernel
theorem dX9_status_64 : decode cX9_status 64 = .ok (.getfield 281, 3) := by decide +kernel
theorem dX9_status_67 : decode cX9_status 67 = .ok (.ireturn, 1) := by decide +kernel
theorem dX9_status_68 : decode cX9_status 68 = .ok (.aload_n 0, 1) := by decide +kernel
theorem dX9_status_69 : decode cX9_status 69 = .ok (.getfield 10, 3) := by decide +kernel
theorem dX9_status_72 : decode cX9_status 72 = .ok (.getfield 275, 3) := by decide +kernel
theorem dX9_status_75 : decode cX9_status 75 = .ok (.ireturn, 1) := by decide +kernel
theorem dX9_status_76 : decode cX9_status 76 = .ok (.aload_n 0, 1) := by decide +kernel
theorem dX9_status_77 : decode cX9_status 77 = .ok (.getfield 10, 3) := by decide +kernel
theorem dX9_status_80 : decode cX9_status 80 = .ok (.getfield 387, 3) := by decide +kernel
theorem dX9_status_83 : decode cX9_status 83 = .ok (.ireturn, 1) := by decide +kernel
theorem dX9_status_84 : decode cX9_status 84 = .ok (.aload_n 0, 1) := by decide +kernel
theorem dX9_status_85 : decode cX9_status 85 = .ok (.getfield 10, 3) := by decide +kernel
theorem dX9_status_88 : decode cX9_status 88 = .ok (.invokevirtual 390, 3) := by decide +kernel
theorem dX9_status_91 : decode cX9_status 91 = .ok (.ireturn, 1) := by decide +kernel
theorem dX9_status_92 : decode cX9_status 92 = .ok (.aload_n 0, 1) := by decide +kernel
theorem dX9_status_93 : decode cX9_status 93 = .ok (.getfield 10, 3) := by decide +kernel
theorem dX9_status_96 : decode cX9_status 96 = .ok (.invokevirtual 393, 3) := by decide +kernel
theorem dX9_status_99 : decode cX9_status 99 = .ok (.ireturn, 1) := by decide +kernel
theorem dX9_status_100 : decode cX9_status 100 = .ok (.aload_n 0, 1) := by decide +kernel
theorem dX9_status_101 : decode cX9_status 101 = .ok (.getfield 10, 3) := by decide +kernel
theorem dX9_status_104 : decode cX9_status 104 = .ok (.getfield 192, 3) := by decide +kernel
theorem dX9_status_107 : decode cX9_status 107 = .ok (.ireturn, 1) := by decide +kernel
theorem dX9_status_108 : decode cX9_status 108 = .ok (.aload_n 0, 1) := by decide +kernel
theorem dX9_status_109 : decode cX9_status 109 = .ok (.getfield 10, 3) := by decide +kernel
theorem dX9_status_112 : decode cX9_status 112 = .ok (.getfield 198, 3) := by decide +kernel
theorem dX9_status_115 : decode cX9_status 115 = .ok (.ireturn, 1) := by decide +kernel
theorem dX9_status_116 : decode cX9_status 116 = .ok (.aload_n 0, 1) := by decide +kernel
theorem dX9_status_117 : decode cX9_status 117 = .ok (.getfield 36, 3) := by decide +kernel
theorem dX9_status_120 : decode cX9_status 120 = .ok (.getfield 396, 3) := by decide +kernel
theorem dX9_status_123 : decode cX9_status 123 = .ok (.ireturn, 1) := by decide +kernel
theorem dX9_status_124 : decode cX9_status 124 = .ok (.aload_n 0, 1) := by decide +kernel
theorem dX9_status_125 : decode cX9_status 125 = .ok (.getfield 10, 3) := by decide +kernel
theorem dX9_status_128 : decode cX9_status 128 = .ok (.getfield 384, 3) := by decide +kernel
theorem dX9_status_131 : decode cX9_status 131 = .ok (.ireturn, 1) := by decide +kernel
theorem dX9_status_132 : decode cX9_status 132 = .ok (.aload_n 0, 1) := by decide +kernel
theorem dX9_status_133 : decode cX9_status 133 = .ok (.invokevirtual 397, 3) := by decide +kernel
theorem dX9_status_136 : decode cX9_status 136 = .ok (.ireturn, 1) := by decide +kernel
theorem dX9_status_137 : decode cX9_status 137 = .ok (.aload_n 0, 1) := by decide +kernel
theorem dX9_status_138 : decode cX9_status 138 = .ok (.getfield 10, 3) := by decide +kernel
theorem dX9_status_141 : decode cX9_status 141 = .ok (.invokevirtual 400, 3) := by decide +kernel
theorem dX9_status_144 : decode cX9_status 144 = .ok (.ireturn, 1) := by decide +kernel
theorem dX9_status_145 : decode cX9_status 145 = .ok (.iload_n 1, 1) := by decide +kernel
theorem dX9_status_146 : decode cX9_status 146 = .ok (.bipush 12, 2) := by decide +kernel
theorem dX9_status_148 : decode cX9_status 148 = .ok (.if_icmp .lt 27, 3) := by decide +kernel
theorem dX9_status_151 : decode cX9_status 151 = .ok (.iload_n 1, 1) := by decide +kernel
theorem dX9_status_152 : decode cX9_status 152 = .ok (.bipush 12, 2) := by decide +kernel
theorem dX9_status_154 : decode cX9_status 154 = .ok (.isub, 1) := by decide +kernel
theorem dX9_status_155 : decode cX9_status 155 = .ok (.aload_n 0, 1) := by decide +kernel
theorem dX9_status_156 : decode cX9_status 156 = .ok (.getfield 61, 3) := by decide +kernel
theorem dX9_status_159 : decode cX9_status 159 = .ok (.arraylength, 1) := by decide +kernel
theorem dX9_status_160 : decode cX9_status 160 = .ok (.if_icmp .ge 15, 3) := by decide +kernel
theorem dX9_status_163 : decode cX9_status 163 = .ok (.aload_n 0, 1) := by decide +kernel
theorem dX9_status_164 : decode cX9_status 164 = .ok (.getfield 61, 3) := by decide +kernel
theorem dX9_status_167 : decode cX9_status 167 = .ok (.iload_n 1, 1) := by decide +kernel
theorem dX9_status_168 : decode cX9_status 168 = .ok (.bipush 12, 2) := by decide +kernel
theorem dX9_status_170 : decode cX9_status 170 = .ok (.isub, 1) := by decide +kernel
theorem dX9_status_171 : decode cX9_status 171 = .ok (.iaload, 1) := by decide +kernel
theorem dX9_status_172 : decode cX9_status 172 = .ok (.goto 4, 3) := by decide +kernel
theorem dX9_status_175 : decode cX9_status 175 = .ok (.iconst (-1), 1) := by decide +kernel
theorem dX9_status_176 : decode cX9_status 176 = .ok (.ireturn, 1) := by decide +kernel
theorem dX9_refuse_0 : decode cX9_refuse 0 = .ok (.bipush (-2), 2) := by decide +kernel
theorem dX9_refuse_2 : decode cX9_refuse 2 = .ok (.iload_n 1, 1) := by decide +kernel
theorem dX9_refuse_3 : decode cX9_refuse 3 = .ok (.isub, 1) := by decide +kernel
theorem dX9_refuse_4 : decode cX9_refuse 4 = .ok (.istore_n 2, 1) := by decide +kernel
theorem dX9_refuse_5 : decode cX9_refuse 5 = .ok (.iload_n 2, 1) := by decide +kernel
theorem dX9_refuse_6 : decode cX9_refuse 6 = .ok (.ifCond .lt 22, 3) := by decide +kernel
theorem dX9_refuse_9 : decode cX9_refuse 9 = .ok (.iload_n 2, 1) := by decide +kernel
theorem dX9_refuse_10 : decode cX9_refuse 10 = .ok (.aload_n 0, 1) := by decide +kernel
theorem dX9_refuse_11 : decode cX9_refuse 11 = .ok (.getfield 61, 3) := by decide +kernel
theorem dX9_refuse_14 : decode cX9_refuse 14 = .ok (.arraylength, 1) := by decide +kernel
theorem dX9_refuse_15 : decode cX9_refuse 15 = .ok (.if_icmp .ge 13, 3) := by decide +kernel
theorem dX9_refuse_18 : decode cX9_refuse 18 = .ok (.aload_n 0, 1) := by decide +kernel
theorem dX9_refuse_19 : decode cX9_refuse 19 = .ok (.getfield 61, 3) := by decide +kernel
theorem dX9_refuse_22 : decode cX9_refuse 22 = .ok (.iload_n 2, 1) := by decide +kernel
theorem dX9_refuse_23 : decode cX9_refuse 23 = .ok (.dup2, 1) := by decide +kernel
theorem dX9_refuse_24 : decode cX9_refuse 24 = .ok (.iaload, 1) := by decide +kernel
theorem dX9_refuse_25 : decode cX9_refuse 25 = .ok (.iconst 1, 1) := by decide +kernel
theorem dX9_refuse_26 : decode cX9_refuse 26 = .ok (.iadd, 1) := by decide +kernel
theorem dX9_refuse_27 : decode cX9_refuse 27 = .ok (.iastore, 1) := by decide +kernel
theorem dX9_refuse_28 : decode cX9_refuse 28 = .ok (.iload_n 1, 1) := by decide +kernel
theorem dX9_refuse_29 : decode cX9_refuse 29 = .ok (.ireturn, 1) := by decide +kernel
theorem dX9_shelfAt_0 : decode cX9_shelfAt 0 = .ok (.iload_n 1, 1) := by decide +kernel
theorem dX9_shelfAt_1 : decode cX9_shelfAt 1 = .ok (.ifCond .lt 21, 3) := by decide +kernel
theorem dX9_shelfAt_4 : decode cX9_shelfAt 4 = .ok (.iload_n 1, 1) := by decide +kernel
theorem dX9_shelfAt_5 : decode cX9_shelfAt 5 = .ok (.aload_n 0, 1) := by decide +kernel
theorem dX9_shelfAt_6 : decode cX9_shelfAt 6 = .ok (.getfield 28, 3) := by decide +kernel
theorem dX9_shelfAt_9 : decode cX9_shelfAt 9 = .ok (.arraylength, 1) := by decide +kernel
theorem dX9_shelfAt_10 : decode cX9_shelfAt 10 = .ok (.if_icmp .ge 12, 3) := by decide +kernel
theorem dX9_shelfAt_13 : decode cX9_shelfAt 13 = .ok (.aload_n 0, 1) := by decide +kernel
theorem dX9_shelfAt_14 : decode cX9_shelfAt 14 = .ok (.getfield 28, 3) := by decide +kernel
theorem dX9_shelfAt_17 : decode cX9_shelfAt 17 = .ok (.iload_n 1, 1) := by decide +kernel
theorem dX9_shelfAt_18 : decode cX9_shelfAt 18 = .ok (.aaload, 1) := by decide +kernel
theorem dX9_shelfAt_19 : decode cX9_shelfAt 19 = .ok (.goto 4, 3) := by decide +kernel
theorem dX9_shelfAt_22 : decode cX9_shelfAt 22 = .ok (.aconst_null, 1) := by decide +kernel
theorem dX9_shelfAt_23 : decode cX9_shelfAt 23 = .ok (.areturn, 1) := by decide +kernel
theorem dX9_countFilledShelves_0 : decode cX9_countFilledShelves 0 = .ok (.iconst 0, 1) := by decide +kernel
theorem dX9_countFilledShelves_1 : decode cX9_countFilledShelves 1 = .ok (.istore_n 1, 1) := by decide +kernel
theorem dX9_countFilledShelves_2 : decode cX9_countFilledShelves 2 = .ok (.iconst 0, 1) := by decide +kernel
theorem dX9_countFilledShelves_3 : decode cX9_countFilledShelves 3 = .ok (.istore_n 2, 1) := by decide +kernel
theorem dX9_countFilledShelves_4 : decode cX9_countFilledShelves 4 = .ok (.iload_n 2, 1) := by decide +kernel
theorem dX9_countFilledShelves_5 : decode cX9_countFilledShelves 5 = .ok (.bipush 8, 2) := by decide +kernel
theorem dX9_countFilledShelves_7 : decode cX9_countFilledShelves 7 = .ok (.if_icmp .ge 30, 3) := by decide +kernel
theorem dX9_countFilledShelves_10 : decode cX9_countFilledShelves 10 = .ok (.aload_n 0, 1) := by decide +kernel
theorem dX9_countFilledShelves_11 : decode cX9_countFilledShelves 11 = .ok (.iload_n 2, 1) := by decide +kernel
theorem dX9_countFilledShelves_12 : decode cX9_countFilledShelves 12 = .ok (.invokevirtual 65, 3) := by decide +kernel
theorem dX9_countFilledShelves_15 : decode cX9_countFilledShelves 15 = .ok (.astore_n 3, 1) := by decide +kernel
theorem dX9_countFilledShelves_16 : decode cX9_countFilledShelves 16 = .ok (.aload_n 3, 1) := by decide +kernel
theorem dX9_countFilledShelves_17 : decode cX9_countFilledShelves 17 = .ok (.ifnull 14, 3) := by decide +kernel
theorem dX9_countFilledShelves_20 : decode cX9_countFilledShelves 20 = .ok (.aload_n 3, 1) := by decide +kernel
theorem dX9_countFilledShelves_21 : decode cX9_countFilledShelves 21 = .ok (.getfield 96, 3) := by decide +kernel
theorem dX9_countFilledShelves_24 : decode cX9_countFilledShelves 24 = .ok (.iconst (-1), 1) := by decide +kernel
theorem dX9_countFilledShelves_25 : decode cX9_countFilledShelves 25 = .ok (.if_icmp .eq 6, 3) := by decide +kernel
theorem dX9_countFilledShelves_28 : decode cX9_countFilledShelves 28 = .ok (.iinc 1 1, 3) := by decide +kernel
theorem dX9_countFilledShelves_31 : decode cX9_countFilledShelves 31 = .ok (.iinc 2 1, 3) := by decide +kernel
theorem dX9_countFilledShelves_34 : decode cX9_countFilledShelves 34 = .ok (.goto (-30), 3) := by decide +kernel
theorem dX9_countFilledShelves_37 : decode cX9_countFilledShelves 37 = .ok (.iload_n 1, 1) := by decide +kernel
theorem dX9_countFilledShelves_38 : decode cX9_countFilledShelves 38 = .ok (.ireturn, 1) := by decide +kernel
theorem dX9_isDistance_0 : decode cX9_isDistance 0 = .ok (.iload_n 0, 1) := by decide +kernel
theorem dX9_isDistance_1 : decode cX9_isDistance 1 = .ok (.ifCond .lt 13, 3) := by decide +kernel
theorem dX9_isDistance_4 : decode cX9_isDistance 4 = .ok (.iload_n 0, 1) := by decide +kernel
theorem dX9_isDistance_5 : decode cX9_isDistance 5 = .ok (.bipush 8, 2) := by decide +kernel
theorem dX9_isDistance_7 : decode cX9_isDistance 7 = .ok (.if_icmp .gt 7, 3) := by decide +kernel
theorem dX9_isDistance_10 : decode cX9_isDistance 10 = .ok (.iconst 1, 1) := by decide +kernel
theorem dX9_isDistance_11 : decode cX9_isDistance 11 = .ok (.goto 4, 3) := by decide +kernel
theorem dX9_isDistance_14 : decode cX9_isDistance 14 = .ok (.iconst 0, 1) := by decide +kernel
theorem dX9_isDistance_15 : decode cX9_isDistance 15 = .ok (.ireturn, 1) := by decide +kernel
theorem dX9_takeHearing_0 : decode cX9_takeHearing 0 = .ok (.aload_n 0, 1) := by decide +kernel
theorem dX9_takeHearing_1 : decode cX9_takeHearing 1 = .ok (.iload_n 1, 1) := by decide +kernel
theorem dX9_takeHearing_2 : decode cX9_takeHearing 2 = .ok (.invokevirtual 65, 3) := by decide +kernel
theorem dX9_takeHearing_5 : decode cX9_takeHearing 5 = .ok (.astore 5, 2) := by decide +kernel
theorem dX9_takeHearing_7 : decode cX9_takeHearing 7 = .ok (.aload 5, 2) := by decide +kernel
theorem dX9_takeHearing_9 : decode cX9_takeHearing 9 = .ok (.ifnull 18, 3) := by decide +kernel
theorem dX9_takeHearing_12 : decode cX9_takeHearing 12 = .ok (.iload_n 2, 1) := by decide +kernel
theorem dX9_takeHearing_13 : decode cX9_takeHearing 13 = .ok (.ifCond .lt 14, 3) := by decide +kernel
theorem dX9_takeHearing_16 : decode cX9_takeHearing 16 = .ok (.iload_n 2, 1) := by decide +kernel
theorem dX9_takeHearing_17 : decode cX9_takeHearing 17 = .ok (.bipush 8, 2) := by decide +kernel
theorem dX9_takeHearing_19 : decode cX9_takeHearing 19 = .ok (.if_icmp .gt 8, 3) := by decide +kernel
theorem dX9_takeHearing_22 : decode cX9_takeHearing 22 = .ok (.iload 4, 2) := by decide +kernel
theorem dX9_takeHearing_24 : decode cX9_takeHearing 24 = .ok (.ifCond .ne 6, 3) := by decide +kernel
theorem dX9_takeHearing_27 : decode cX9_takeHearing 27 = .ok (.bipush (-2), 2) := by decide +kernel
theorem dX9_takeHearing_29 : decode cX9_takeHearing 29 = .ok (.ireturn, 1) := by decide +kernel
theorem dX9_takeHearing_30 : decode cX9_takeHearing 30 = .ok (.aload 5, 2) := by decide +kernel
theorem dX9_takeHearing_32 : decode cX9_takeHearing 32 = .ok (.invokevirtual 77, 3) := by decide +kernel
theorem dX9_takeHearing_35 : decode cX9_takeHearing 35 = .ok (.istore 6, 2) := by decide +kernel
theorem dX9_takeHearing_37 : decode cX9_takeHearing 37 = .ok (.iload 6, 2) := by decide +kernel
theorem dX9_takeHearing_39 : decode cX9_takeHearing 39 = .ok (.ifCond .eq 6, 3) := by decide +kernel
theorem dX9_takeHearing_42 : decode cX9_takeHearing 42 = .ok (.iload 6, 2) := by decide +kernel
theorem dX9_takeHearing_44 : decode cX9_takeHearing 44 = .ok (.ireturn, 1) := by decide +kernel
theorem dX9_takeHearing_45 : decode cX9_takeHearing 45 = .ok (.iload_n 2, 1) := by decide +kernel
theorem dX9_takeHearing_46 : decode cX9_takeHearing 46 = .ok (.aload 5, 2) := by decide +kernel
theorem dX9_takeHearing_48 : decode cX9_takeHearing 48 = .ok (.getfield 146, 3) := by decide +kernel
theorem dX9_takeHearing_51 : decode cX9_takeHearing 51 = .ok (.if_icmp .le 6, 3) := by decide +kernel
theorem dX9_takeHearing_54 : decode cX9_takeHearing 54 = .ok (.bipush (-2), 2) := by decide +kernel
theorem dX9_takeHearing_56 : decode cX9_takeHearing 56 = .ok (.ireturn, 1) := by decide +kernel
theorem dX9_takeHearing_57 : decode cX9_takeHearing 57 = .ok (.aload 5, 2) := by decide +kernel
theorem dX9_takeHearing_59 : decode cX9_takeHearing 59 = .ok (.iload_n 2, 1) := by decide +kernel
theorem dX9_takeHearing_60 : decode cX9_takeHearing 60 = .ok (.invokevirtual 365, 3) := by decide +kernel
theorem dX9_takeHearing_63 : decode cX9_takeHearing 63 = .ok (.iconst (-1), 1) := by decide +kernel
theorem dX9_takeHearing_64 : decode cX9_takeHearing 64 = .ok (.if_icmp .eq 6, 3) := by decide +kernel
theorem dX9_takeHearing_67 : decode cX9_takeHearing 67 = .ok (.bipush (-5), 2) := by decide +kernel
theorem dX9_takeHearing_69 : decode cX9_takeHearing 69 = .ok (.ireturn, 1) := by decide +kernel
theorem dX9_takeHearing_70 : decode cX9_takeHearing 70 = .ok (.aload_n 0, 1) := by decide +kernel
theorem dX9_takeHearing_71 : decode cX9_takeHearing 71 = .ok (.getfield 43, 3) := by decide +kernel
theorem dX9_takeHearing_74 : decode cX9_takeHearing 74 = .ok (.aload 5, 2) := by decide +kernel
theorem dX9_takeHearing_76 : decode cX9_takeHearing 76 = .ok (.iload_n 2, 1) := by decide +kernel
theorem dX9_takeHearing_77 : decode cX9_takeHearing 77 = .ok (.iload_n 3, 1) := by decide +kernel
theorem dX9_takeHearing_78 : decode cX9_takeHearing 78 = .ok (.invokevirtual 403, 3) := by decide +kernel
theorem dX9_takeHearing_81 : decode cX9_takeHearing 81 = .ok (.iconst 0, 1) := by decide +kernel
theorem dX9_takeHearing_82 : decode cX9_takeHearing 82 = .ok (.ireturn, 1) := by decide +kernel
