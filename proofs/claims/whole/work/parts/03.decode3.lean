theorem dX12_nextToken_169 : decode cX12_nextToken 169 = .ok (.return_, 1) := by decide +kernel
theorem dX12_kindOf_0 : decode cX12_kindOf 0 = .ok (.iload_n 0, 1) := by decide +kernel
theorem dX12_kindOf_1 : decode cX12_kindOf 1 = .ok (.bipush 97, 2) := by decide +kernel
theorem dX12_kindOf_3 : decode cX12_kindOf 3 = .ok (.bipush 122, 2) := by decide +kernel
theorem dX12_kindOf_5 : decode cX12_kindOf 5 = .ok (.invokestatic 83, 3) := by decide +kernel
theorem dX12_kindOf_8 : decode cX12_kindOf 8 = .ok (.ifCond .eq 7, 3) := by decide +kernel
theorem dX12_kindOf_11 : decode cX12_kindOf 11 = .ok (.iconst 1, 1) := by decide +kernel
theorem dX12_kindOf_12 : decode cX12_kindOf 12 = .ok (.goto 29, 3) := by decide +kernel
theorem dX12_kindOf_15 : decode cX12_kindOf 15 = .ok (.iload_n 0, 1) := by decide +kernel
theorem dX12_kindOf_16 : decode cX12_kindOf 16 = .ok (.bipush 48, 2) := by decide +kernel
theorem dX12_kindOf_18 : decode cX12_kindOf 18 = .ok (.bipush 57, 2) := by decide +kernel
theorem dX12_kindOf_20 : decode cX12_kindOf 20 = .ok (.invokestatic 83, 3) := by decide +kernel
theorem dX12_kindOf_23 : decode cX12_kindOf 23 = .ok (.ifCond .eq 7, 3) := by decide +kernel
theorem dX12_kindOf_26 : decode cX12_kindOf 26 = .ok (.iconst 2, 1) := by decide +kernel
theorem dX12_kindOf_27 : decode cX12_kindOf 27 = .ok (.goto 14, 3) := by decide +kernel
theorem dX12_kindOf_30 : decode cX12_kindOf 30 = .ok (.iload_n 0, 1) := by decide +kernel
theorem dX12_kindOf_31 : decode cX12_kindOf 31 = .ok (.bipush 59, 2) := by decide +kernel
theorem dX12_kindOf_33 : decode cX12_kindOf 33 = .ok (.if_icmp .ne 7, 3) := by decide +kernel
theorem dX12_kindOf_36 : decode cX12_kindOf 36 = .ok (.iconst 3, 1) := by decide +kernel
theorem dX12_kindOf_37 : decode cX12_kindOf 37 = .ok (.goto 4, 3) := by decide +kernel
theorem dX12_kindOf_40 : decode cX12_kindOf 40 = .ok (.iconst 4, 1) := by decide +kernel
theorem dX12_kindOf_41 : decode cX12_kindOf 41 = .ok (.ireturn, 1) := by decide +kernel
theorem dX12_fails_0 : decode cX12_fails 0 = .ok (.aload_n 0, 1) := by decide +kernel
theorem dX12_fails_1 : decode cX12_fails 1 = .ok (.aload_n 0, 1) := by decide +kernel
theorem dX12_fails_2 : decode cX12_fails 2 = .ok (.getfield 95, 3) := by decide +kernel
theorem dX12_fails_5 : decode cX12_fails 5 = .ok (.putfield 108, 3) := by decide +kernel
theorem dX12_fails_8 : decode cX12_fails 8 = .ok (.iconst 0, 1) := by decide +kernel
theorem dX12_fails_9 : decode cX12_fails 9 = .ok (.ireturn, 1) := by decide +kernel
theorem dX12_word_0 : decode cX12_word 0 = .ok (.lconst 0, 1) := by decide +kernel
theorem dX12_word_1 : decode cX12_word 1 = .ok (.lstore_n 1, 1) := by decide +kernel
theorem dX12_word_2 : decode cX12_word 2 = .ok (.iconst 0, 1) := by decide +kernel
theorem dX12_word_3 : decode cX12_word 3 = .ok (.istore_n 3, 1) := by decide +kernel
theorem dX12_word_4 : decode cX12_word 4 = .ok (.iload_n 3, 1) := by decide +kernel
theorem dX12_word_5 : decode cX12_word 5 = .ok (.aload_n 0, 1) := by decide +kernel
theorem dX12_word_6 : decode cX12_word 6 = .ok (.getfield 105, 3) := by decide +kernel
theorem dX12_word_9 : decode cX12_word 9 = .ok (.if_icmp .ge 53, 3) := by decide +kernel
theorem dX12_word_12 : decode cX12_word 12 = .ok (.aload_n 0, 1) := by decide +kernel
theorem dX12_word_13 : decode cX12_word 13 = .ok (.getfield 102, 3) := by decide +kernel
theorem dX12_word_16 : decode cX12_word 16 = .ok (.iconst 1, 1) := by decide +kernel
theorem dX12_word_17 : decode cX12_word 17 = .ok (.if_icmp .ne 45, 3) := by decide +kernel
theorem dX12_word_20 : decode cX12_word 20 = .ok (.aload_n 0, 1) := by decide +kernel
theorem dX12_word_21 : decode cX12_word 21 = .ok (.getfield 105, 3) := by decide +kernel
theorem dX12_word_24 : decode cX12_word 24 = .ok (.bipush 9, 2) := by decide +kernel
theorem dX12_word_26 : decode cX12_word 26 = .ok (.if_icmp .le 7, 3) := by decide +kernel
theorem dX12_word_29 : decode cX12_word 29 = .ok (.lconst 0, 1) := by decide +kernel
theorem dX12_word_30 : decode cX12_word 30 = .ok (.goto 25, 3) := by decide +kernel
theorem dX12_word_33 : decode cX12_word 33 = .ok (.ldc2_w 111, 3) := by decide +kernel
theorem dX12_word_36 : decode cX12_word 36 = .ok (.lload_n 1, 1) := by decide +kernel
theorem dX12_word_37 : decode cX12_word 37 = .ok (.lmul, 1) := by decide +kernel
theorem dX12_word_38 : decode cX12_word 38 = .ok (.aload_n 0, 1) := by decide +kernel
theorem dX12_word_39 : decode cX12_word 39 = .ok (.getfield 23, 3) := by decide +kernel
theorem dX12_word_42 : decode cX12_word 42 = .ok (.aload_n 0, 1) := by decide +kernel
theorem dX12_word_43 : decode cX12_word 43 = .ok (.getfield 95, 3) := by decide +kernel
theorem dX12_word_46 : decode cX12_word 46 = .ok (.iload_n 3, 1) := by decide +kernel
theorem dX12_word_47 : decode cX12_word 47 = .ok (.iadd, 1) := by decide +kernel
theorem dX12_word_48 : decode cX12_word 48 = .ok (.iaload, 1) := by decide +kernel
theorem dX12_word_49 : decode cX12_word 49 = .ok (.i2l, 1) := by decide +kernel
theorem dX12_word_50 : decode cX12_word 50 = .ok (.ladd, 1) := by decide +kernel
theorem dX12_word_51 : decode cX12_word 51 = .ok (.ldc2_w 113, 3) := by decide +kernel
theorem dX12_word_54 : decode cX12_word 54 = .ok (.lsub, 1) := by decide +kernel
theorem dX12_word_55 : decode cX12_word 55 = .ok (.lstore_n 1, 1) := by decide +kernel
theorem dX12_word_56 : decode cX12_word 56 = .ok (.iinc 3 1, 3) := by decide +kernel
theorem dX12_word_59 : decode cX12_word 59 = .ok (.goto (-55), 3) := by decide +kernel
theorem dX12_word_62 : decode cX12_word 62 = .ok (.lload_n 1, 1) := by decide +kernel
theorem dX12_word_63 : decode cX12_word 63 = .ok (.lreturn, 1) := by decide +kernel
theorem dX12_isNumber_0 : decode cX12_isNumber 0 = .ok (.aload_n 0, 1) := by decide +kernel
theorem dX12_isNumber_1 : decode cX12_isNumber 1 = .ok (.invokevirtual 115, 3) := by decide +kernel
theorem dX12_isNumber_4 : decode cX12_isNumber 4 = .ok (.aload_n 0, 1) := by decide +kernel
theorem dX12_isNumber_5 : decode cX12_isNumber 5 = .ok (.getfield 102, 3) := by decide +kernel
theorem dX12_isNumber_8 : decode cX12_isNumber 8 = .ok (.iconst 2, 1) := by decide +kernel
theorem dX12_isNumber_9 : decode cX12_isNumber 9 = .ok (.if_icmp .ne 26, 3) := by decide +kernel
theorem dX12_isNumber_12 : decode cX12_isNumber 12 = .ok (.aload_n 0, 1) := by decide +kernel
theorem dX12_isNumber_13 : decode cX12_isNumber 13 = .ok (.getfield 105, 3) := by decide +kernel
theorem dX12_isNumber_16 : decode cX12_isNumber 16 = .ok (.iconst 1, 1) := by decide +kernel
theorem dX12_isNumber_17 : decode cX12_isNumber 17 = .ok (.if_icmp .ne 18, 3) := by decide +kernel
theorem dX12_isNumber_20 : decode cX12_isNumber 20 = .ok (.aload_n 0, 1) := by decide +kernel
theorem dX12_isNumber_21 : decode cX12_isNumber 21 = .ok (.getfield 23, 3) := by decide +kernel
theorem dX12_isNumber_24 : decode cX12_isNumber 24 = .ok (.aload_n 0, 1) := by decide +kernel
theorem dX12_isNumber_25 : decode cX12_isNumber 25 = .ok (.getfield 95, 3) := by decide +kernel
theorem dX12_isNumber_28 : decode cX12_isNumber 28 = .ok (.iaload, 1) := by decide +kernel
theorem dX12_isNumber_29 : decode cX12_isNumber 29 = .ok (.bipush 48, 2) := by decide +kernel
theorem dX12_isNumber_31 : decode cX12_isNumber 31 = .ok (.isub, 1) := by decide +kernel
theorem dX12_isNumber_32 : decode cX12_isNumber 32 = .ok (.goto 4, 3) := by decide +kernel
theorem dX12_isNumber_35 : decode cX12_isNumber 35 = .ok (.iconst (-1), 1) := by decide +kernel
theorem dX12_isNumber_36 : decode cX12_isNumber 36 = .ok (.istore 4, 2) := by decide +kernel
theorem dX12_isNumber_38 : decode cX12_isNumber 38 = .ok (.iload 4, 2) := by decide +kernel
theorem dX12_isNumber_40 : decode cX12_isNumber 40 = .ok (.iload_n 2, 1) := by decide +kernel
theorem dX12_isNumber_41 : decode cX12_isNumber 41 = .ok (.iload_n 3, 1) := by decide +kernel
theorem dX12_isNumber_42 : decode cX12_isNumber 42 = .ok (.invokestatic 83, 3) := by decide +kernel
theorem dX12_isNumber_45 : decode cX12_isNumber 45 = .ok (.ifCond .ne 8, 3) := by decide +kernel
theorem dX12_isNumber_48 : decode cX12_isNumber 48 = .ok (.aload_n 0, 1) := by decide +kernel
theorem dX12_isNumber_49 : decode cX12_isNumber 49 = .ok (.invokevirtual 118, 3) := by decide +kernel
theorem dX12_isNumber_52 : decode cX12_isNumber 52 = .ok (.ireturn, 1) := by decide +kernel
theorem dX12_isNumber_53 : decode cX12_isNumber 53 = .ok (.aload_n 0, 1) := by decide +kernel
theorem dX12_isNumber_54 : decode cX12_isNumber 54 = .ok (.getfield 26, 3) := by decide +kernel
theorem dX12_isNumber_57 : decode cX12_isNumber 57 = .ok (.iload_n 1, 1) := by decide +kernel
theorem dX12_isNumber_58 : decode cX12_isNumber 58 = .ok (.iload 4, 2) := by decide +kernel
theorem dX12_isNumber_60 : decode cX12_isNumber 60 = .ok (.iastore, 1) := by decide +kernel
theorem dX12_isNumber_61 : decode cX12_isNumber 61 = .ok (.iconst 1, 1) := by decide +kernel
theorem dX12_isNumber_62 : decode cX12_isNumber 62 = .ok (.ireturn, 1) := by decide +kernel
theorem dX12_isOfLetters_0 : decode cX12_isOfLetters 0 = .ok (.aload_n 0, 1) := by decide +kernel
theorem dX12_isOfLetters_1 : decode cX12_isOfLetters 1 = .ok (.getfield 102, 3) := by decide +kernel
theorem dX12_isOfLetters_4 : decode cX12_isOfLetters 4 = .ok (.iconst 1, 1) := by decide +kernel
theorem dX12_isOfLetters_5 : decode cX12_isOfLetters 5 = .ok (.if_icmp .ne 7, 3) := by decide +kernel
theorem dX12_isOfLetters_8 : decode cX12_isOfLetters 8 = .ok (.iconst 1, 1) := by decide +kernel
theorem dX12_isOfLetters_9 : decode cX12_isOfLetters 9 = .ok (.goto 4, 3) := by decide +kernel
theorem dX12_isOfLetters_12 : decode cX12_isOfLetters 12 = .ok (.iconst 0, 1) := by decide +kernel
theorem dX12_isOfLetters_13 : decode cX12_isOfLetters 13 = .ok (.istore_n 1, 1) := by decide +kernel
theorem dX12_isOfLetters_14 : decode cX12_isOfLetters 14 = .ok (.iconst 0, 1) := by decide +kernel
theorem dX12_isOfLetters_15 : decode cX12_isOfLetters 15 = .ok (.istore_n 2, 1) := by decide +kernel
theorem dX12_isOfLetters_16 : decode cX12_isOfLetters 16 = .ok (.iload_n 2, 1) := by decide +kernel
theorem dX12_isOfLetters_17 : decode cX12_isOfLetters 17 = .ok (.aload_n 0, 1) := by decide +kernel
theorem dX12_isOfLetters_18 : decode cX12_isOfLetters 18 = .ok (.getfield 105, 3) := by decide +kernel
theorem dX12_isOfLetters_21 : decode cX12_isOfLetters 21 = .ok (.if_icmp .ge 40, 3) := by decide +kernel
theorem dX12_isOfLetters_24 : decode cX12_isOfLetters 24 = .ok (.iload_n 1, 1) := by decide +kernel
theorem dX12_isOfLetters_25 : decode cX12_isOfLetters 25 = .ok (.ifCond .eq 36, 3) := by decide +kernel
theorem dX12_isOfLetters_28 : decode cX12_isOfLetters 28 = .ok (.aload_n 0, 1) := by decide +kernel
theorem dX12_isOfLetters_29 : decode cX12_isOfLetters 29 = .ok (.getfield 23, 3) := by decide +kernel
theorem dX12_isOfLetters_32 : decode cX12_isOfLetters 32 = .ok (.aload_n 0, 1) := by decide +kernel
theorem dX12_isOfLetters_33 : decode cX12_isOfLetters 33 = .ok (.getfield 95, 3) := by decide +kernel
theorem dX12_isOfLetters_36 : decode cX12_isOfLetters 36 = .ok (.iload_n 2, 1) := by decide +kernel
theorem dX12_isOfLetters_37 : decode cX12_isOfLetters 37 = .ok (.iadd, 1) := by decide +kernel
theorem dX12_isOfLetters_38 : decode cX12_isOfLetters 38 = .ok (.iaload, 1) := by decide +kernel
theorem dX12_isOfLetters_39 : decode cX12_isOfLetters 39 = .ok (.bipush 97, 2) := by decide +kernel
theorem dX12_isOfLetters_41 : decode cX12_isOfLetters 41 = .ok (.isub, 1) := by decide +kernel
theorem dX12_isOfLetters_42 : decode cX12_isOfLetters 42 = .ok (.aload_n 0, 1) := by decide +kernel
theorem dX12_isOfLetters_43 : decode cX12_isOfLetters 43 = .ok (.getfield 122, 3) := by decide +kernel
theorem dX12_isOfLetters_46 : decode cX12_isOfLetters 46 = .ok (.if_icmp .ge 7, 3) := by decide +kernel
theorem dX12_isOfLetters_49 : decode cX12_isOfLetters 49 = .ok (.iconst 1, 1) := by decide +kernel
theorem dX12_isOfLetters_50 : decode cX12_isOfLetters 50 = .ok (.goto 4, 3) := by decide +kernel
theorem dX12_isOfLetters_53 : decode cX12_isOfLetters 53 = .ok (.iconst 0, 1) := by decide +kernel
theorem dX12_isOfLetters_54 : decode cX12_isOfLetters 54 = .ok (.istore_n 1, 1) := by decide +kernel
theorem dX12_isOfLetters_55 : decode cX12_isOfLetters 55 = .ok (.iinc 2 1, 3) := by decide +kernel
theorem dX12_isOfLetters_58 : decode cX12_isOfLetters 58 = .ok (.goto (-42), 3) := by decide +kernel
theorem dX12_isOfLetters_61 : decode cX12_isOfLetters 61 = .ok (.iload_n 1, 1) := by decide +kernel
theorem dX12_isOfLetters_62 : decode cX12_isOfLetters 62 = .ok (.ireturn, 1) := by decide +kernel
theorem dX12_isLine_0 : decode cX12_isLine 0 = .ok (.aload_n 0, 1) := by decide +kernel
theorem dX12_isLine_1 : decode cX12_isLine 1 = .ok (.invokevirtual 115, 3) := by decide +kernel
theorem dX12_isLine_4 : decode cX12_isLine 4 = .ok (.aload_n 0, 1) := by decide +kernel
theorem dX12_isLine_5 : decode cX12_isLine 5 = .ok (.invokevirtual 125, 3) := by decide +kernel
theorem dX12_isLine_8 : decode cX12_isLine 8 = .ok (.lstore_n 2, 1) := by decide +kernel
theorem dX12_isLine_9 : decode cX12_isLine 9 = .ok (.aload_n 0, 1) := by decide +kernel
theorem dX12_isLine_10 : decode cX12_isLine 10 = .ok (.getfield 26, 3) := by decide +kernel
theorem dX12_isLine_13 : decode cX12_isLine 13 = .ok (.iload_n 1, 1) := by decide +kernel
theorem dX12_isLine_14 : decode cX12_isLine 14 = .ok (.lload_n 2, 1) := by decide +kernel
theorem dX12_isLine_15 : decode cX12_isLine 15 = .ok (.ldc2_w 129, 3) := by decide +kernel
theorem dX12_isLine_18 : decode cX12_isLine 18 = .ok (.lcmp, 1) := by decide +kernel
theorem dX12_isLine_19 : decode cX12_isLine 19 = .ok (.ifCond .ne 7, 3) := by decide +kernel
theorem dX12_isLine_22 : decode cX12_isLine 22 = .ok (.iconst 0, 1) := by decide +kernel
theorem dX12_isLine_23 : decode cX12_isLine 23 = .ok (.goto 40, 3) := by decide +kernel
theorem dX12_isLine_26 : decode cX12_isLine 26 = .ok (.lload_n 2, 1) := by decide +kernel
theorem dX12_isLine_27 : decode cX12_isLine 27 = .ok (.ldc2_w 131, 3) := by decide +kernel
theorem dX12_isLine_30 : decode cX12_isLine 30 = .ok (.lcmp, 1) := by decide +kernel
theorem dX12_isLine_31 : decode cX12_isLine 31 = .ok (.ifCond .ne 7, 3) := by decide +kernel
theorem dX12_isLine_34 : decode cX12_isLine 34 = .ok (.iconst 1, 1) := by decide +kernel
theorem dX12_isLine_35 : decode cX12_isLine 35 = .ok (.goto 28, 3) := by decide +kernel
theorem dX12_isLine_38 : decode cX12_isLine 38 = .ok (.lload_n 2, 1) := by decide +kernel
theorem dX12_isLine_39 : decode cX12_isLine 39 = .ok (.ldc2_w 133, 3) := by decide +kernel
theorem dX12_isLine_42 : decode cX12_isLine 42 = .ok (.lcmp, 1) := by decide +kernel
theorem dX12_isLine_43 : decode cX12_isLine 43 = .ok (.ifCond .ne 7, 3) := by decide +kernel
theorem dX12_isLine_46 : decode cX12_isLine 46 = .ok (.iconst 2, 1) := by decide +kernel
theorem dX12_isLine_47 : decode cX12_isLine 47 = .ok (.goto 16, 3) := by decide +kernel
theorem dX12_isLine_50 : decode cX12_isLine 50 = .ok (.lload_n 2, 1) := by decide +kernel
theorem dX12_isLine_51 : decode cX12_isLine 51 = .ok (.ldc2_w 135, 3) := by decide +kernel
theorem dX12_isLine_54 : decode cX12_isLine 54 = .ok (.lcmp, 1) := by decide +kernel
theorem dX12_isLine_55 : decode cX12_isLine 55 = .ok (.ifCond .ne 7, 3) := by decide +kernel
theorem dX12_isLine_58 : decode cX12_isLine 58 = .ok (.iconst 3, 1) := by decide +kernel
theorem dX12_isLine_59 : decode cX12_isLine 59 = .ok (.goto 4, 3) := by decide +kernel
theorem dX12_isLine_62 : decode cX12_isLine 62 = .ok (.iconst (-1), 1) := by decide +kernel
theorem dX12_isLine_63 : decode cX12_isLine 63 = .ok (.iastore, 1) := by decide +kernel
theorem dX12_isLine_64 : decode cX12_isLine 64 = .ok (.aload_n 0, 1) := by decide +kernel
theorem dX12_isLine_65 : decode cX12_isLine 65 = .ok (.getfield 26, 3) := by decide +kernel
theorem dX12_isLine_68 : decode cX12_isLine 68 = .ok (.iload_n 1, 1) := by decide +kernel
theorem dX12_isLine_69 : decode cX12_isLine 69 = .ok (.iaload, 1) := by decide +kernel
theorem dX12_isLine_70 : decode cX12_isLine 70 = .ok (.iconst (-1), 1) := by decide +kernel
theorem dX12_isLine_71 : decode cX12_isLine 71 = .ok (.if_icmp .ne 8, 3) := by decide +kernel
theorem dX12_isLine_74 : decode cX12_isLine 74 = .ok (.aload_n 0, 1) := by decide +kernel
theorem dX12_isLine_75 : decode cX12_isLine 75 = .ok (.invokevirtual 118, 3) := by decide +kernel
theorem dX12_isLine_78 : decode cX12_isLine 78 = .ok (.ireturn, 1) := by decide +kernel
theorem dX12_isLine_79 : decode cX12_isLine 79 = .ok (.aload_n 0, 1) := by decide +kernel
theorem dX12_isLine_80 : decode cX12_isLine 80 = .ok (.getfield 26, 3) := by decide +kernel
theorem dX12_isLine_83 : decode cX12_isLine 83 = .ok (.iload_n 1, 1) := by decide +kernel
theorem dX12_isLine_84 : decode cX12_isLine 84 = .ok (.iaload, 1) := by decide +kernel
theorem dX12_isLine_85 : decode cX12_isLine 85 = .ok (.iconst 2, 1) := by decide +kernel
theorem dX12_isLine_86 : decode cX12_isLine 86 = .ok (.if_icmp .ge 70, 3) := by decide +kernel
theorem dX12_isLine_89 : decode cX12_isLine 89 = .ok (.aload_n 0, 1) := by decide +kernel
theorem dX12_isLine_90 : decode cX12_isLine 90 = .ok (.invokevirtual 115, 3) := by decide +kernel
theorem dX12_isLine_93 : decode cX12_isLine 93 = .ok (.aload_n 0, 1) := by decide +kernel
theorem dX12_isLine_94 : decode cX12_isLine 94 = .ok (.getfield 26, 3) := by decide +kernel
theorem dX12_isLine_97 : decode cX12_isLine 97 = .ok (.iload_n 1, 1) := by decide +kernel
theorem dX12_isLine_98 : decode cX12_isLine 98 = .ok (.iconst 1, 1) := by decide +kernel
theorem dX12_isLine_99 : decode cX12_isLine 99 = .ok (.iadd, 1) := by decide +kernel
theorem dX12_isLine_100 : decode cX12_isLine 100 = .ok (.aload_n 0, 1) := by decide +kernel
theorem dX12_isLine_101 : decode cX12_isLine 101 = .ok (.getfield 95, 3) := by decide +kernel
theorem dX12_isLine_104 : decode cX12_isLine 104 = .ok (.iastore, 1) := by decide +kernel
theorem dX12_isLine_105 : decode cX12_isLine 105 = .ok (.aload_n 0, 1) := by decide +kernel
theorem dX12_isLine_106 : decode cX12_isLine 106 = .ok (.invokevirtual 137, 3) := by decide +kernel
theorem dX12_isLine_109 : decode cX12_isLine 109 = .ok (.ifCond .eq 34, 3) := by decide +kernel
theorem dX12_isLine_112 : decode cX12_isLine 112 = .ok (.aload_n 0, 1) := by decide +kernel
theorem dX12_isLine_113 : decode cX12_isLine 113 = .ok (.getfield 105, 3) := by decide +kernel
theorem dX12_isLine_116 : decode cX12_isLine 116 = .ok (.iconst 2, 1) := by decide +kernel
theorem dX12_isLine_117 : decode cX12_isLine 117 = .ok (.if_icmp .ne 26, 3) := by decide +kernel
theorem dX12_isLine_120 : decode cX12_isLine 120 = .ok (.aload_n 0, 1) := by decide +kernel
theorem dX12_isLine_121 : decode cX12_isLine 121 = .ok (.getfield 23, 3) := by decide +kernel
theorem dX12_isLine_124 : decode cX12_isLine 124 = .ok (.aload_n 0, 1) := by decide +kernel
theorem dX12_isLine_125 : decode cX12_isLine 125 = .ok (.getfield 95, 3) := by decide +kernel
theorem dX12_isLine_128 : decode cX12_isLine 128 = .ok (.iaload, 1) := by decide +kernel
theorem dX12_isLine_129 : decode cX12_isLine 129 = .ok (.aload_n 0, 1) := by decide +kernel
theorem dX12_isLine_130 : decode cX12_isLine 130 = .ok (.getfield 23, 3) := by decide +kernel
theorem dX12_isLine_133 : decode cX12_isLine 133 = .ok (.aload_n 0, 1) := by decide +kernel
theorem dX12_isLine_134 : decode cX12_isLine 134 = .ok (.getfield 95, 3) := by decide +kernel
theorem dX12_isLine_137 : decode cX12_isLine 137 = .ok (.iconst 1, 1) := by decide +kernel
theorem dX12_isLine_138 : decode cX12_isLine 138 = .ok (.iadd, 1) := by decide +kernel
theorem dX12_isLine_139 : decode cX12_isLine 139 = .ok (.iaload, 1) := by decide +kernel
theorem dX12_isLine_140 : decode cX12_isLine 140 = .ok (.if_icmp .ne 10, 3) := by decide +kernel
theorem dX12_isLine_143 : decode cX12_isLine 143 = .ok (.aload_n 0, 1) := by decide +kernel
theorem dX12_isLine_144 : decode cX12_isLine 144 = .ok (.invokevirtual 118, 3) := by decide +kernel
theorem dX12_isLine_147 : decode cX12_isLine 147 = .ok (.ifCond .eq 7, 3) := by decide +kernel
theorem dX12_isLine_150 : decode cX12_isLine 150 = .ok (.iconst 1, 1) := by decide +kernel
theorem dX12_isLine_151 : decode cX12_isLine 151 = .ok (.goto 4, 3) := by decide +kernel
theorem dX12_isLine_154 : decode cX12_isLine 154 = .ok (.iconst 0, 1) := by decide +kernel
theorem dX12_isLine_155 : decode cX12_isLine 155 = .ok (.ireturn, 1) := by decide +kernel
theorem dX12_isLine_156 : decode cX12_isLine 156 = .ok (.aload_n 0, 1) := by decide +kernel
theorem dX12_isLine_157 : decode cX12_isLine 157 = .ok (.getfield 26, 3) := by decide +kernel
theorem dX12_isLine_160 : decode cX12_isLine 160 = .ok (.iload_n 1, 1) := by decide +kernel
theorem dX12_isLine_161 : decode cX12_isLine 161 = .ok (.iaload, 1) := by decide +kernel
theorem dX12_isLine_162 : decode cX12_isLine 162 = .ok (.iconst 2, 1) := by decide +kernel
theorem dX12_isLine_163 : decode cX12_isLine 163 = .ok (.if_icmp .ne 32, 3) := by decide +kernel
theorem dX12_isLine_166 : decode cX12_isLine 166 = .ok (.aload_n 0, 1) := by decide +kernel
theorem dX12_isLine_167 : decode cX12_isLine 167 = .ok (.iload_n 1, 1) := by decide +kernel
theorem dX12_isLine_168 : decode cX12_isLine 168 = .ok (.iconst 1, 1) := by decide +kernel
theorem dX12_isLine_169 : decode cX12_isLine 169 = .ok (.iadd, 1) := by decide +kernel
theorem dX12_isLine_170 : decode cX12_isLine 170 = .ok (.iconst 1, 1) := by decide +kernel
theorem dX12_isLine_171 : decode cX12_isLine 171 = .ok (.bipush 6, 2) := by decide +kernel
theorem dX12_isLine_173 : decode cX12_isLine 173 = .ok (.invokevirtual 140, 3) := by decide +kernel
theorem dX12_isLine_176 : decode cX12_isLine 176 = .ok (.ifCond .ne 5, 3) := by decide +kernel
theorem dX12_isLine_179 : decode cX12_isLine 179 = .ok (.iconst 0, 1) := by decide +kernel
theorem dX12_isLine_180 : decode cX12_isLine 180 = .ok (.ireturn, 1) := by decide +kernel
theorem dX12_isLine_181 : decode cX12_isLine 181 = .ok (.aload_n 0, 1) := by decide +kernel
theorem dX12_isLine_182 : decode cX12_isLine 182 = .ok (.aload_n 0, 1) := by decide +kernel
theorem dX12_isLine_183 : decode cX12_isLine 183 = .ok (.getfield 26, 3) := by decide +kernel
theorem dX12_isLine_186 : decode cX12_isLine 186 = .ok (.iload_n 1, 1) := by decide +kernel
theorem dX12_isLine_187 : decode cX12_isLine 187 = .ok (.iconst 1, 1) := by decide +kernel
theorem dX12_isLine_188 : decode cX12_isLine 188 = .ok (.iadd, 1) := by decide +kernel
theorem dX12_isLine_189 : decode cX12_isLine 189 = .ok (.iaload, 1) := by decide +kernel
theorem dX12_isLine_190 : decode cX12_isLine 190 = .ok (.putfield 122, 3) := by decide +kernel
theorem dX12_isLine_193 : decode cX12_isLine 193 = .ok (.iconst 1, 1) := by decide +kernel
theorem dX12_isLine_194 : decode cX12_isLine 194 = .ok (.ireturn, 1) := by decide +kernel
theorem dX12_isLine_195 : decode cX12_isLine 195 = .ok (.aload_n 0, 1) := by decide +kernel
theorem dX12_isLine_196 : decode cX12_isLine 196 = .ok (.iload_n 1, 1) := by decide +kernel
theorem dX12_isLine_197 : decode cX12_isLine 197 = .ok (.iconst 1, 1) := by decide +kernel
theorem dX12_isLine_198 : decode cX12_isLine 198 = .ok (.iadd, 1) := by decide +kernel
theorem dX12_isLine_199 : decode cX12_isLine 199 = .ok (.iconst 0, 1) := by decide +kernel
theorem dX12_isLine_200 : decode cX12_isLine 200 = .ok (.iconst 3, 1) := by decide +kernel
theorem dX12_isLine_201 : decode cX12_isLine 201 = .ok (.invokevirtual 140, 3) := by decide +kernel
theorem dX12_isLine_204 : decode cX12_isLine 204 = .ok (.ifCond .ne 5, 3) := by decide +kernel
theorem dX12_isLine_207 : decode cX12_isLine 207 = .ok (.iconst 0, 1) := by decide +kernel
theorem dX12_isLine_208 : decode cX12_isLine 208 = .ok (.ireturn, 1) := by decide +kernel
theorem dX12_isLine_209 : decode cX12_isLine 209 = .ok (.aload_n 0, 1) := by decide +kernel
theorem dX12_isLine_210 : decode cX12_isLine 210 = .ok (.invokevirtual 115, 3) := by decide +kernel
theorem dX12_isLine_213 : decode cX12_isLine 213 = .ok (.aload_n 0, 1) := by decide +kernel
theorem dX12_isLine_214 : decode cX12_isLine 214 = .ok (.invokevirtual 125, 3) := by decide +kernel
theorem dX12_isLine_217 : decode cX12_isLine 217 = .ok (.ldc2_w 143, 3) := by decide +kernel
theorem dX12_isLine_220 : decode cX12_isLine 220 = .ok (.lcmp, 1) := by decide +kernel
theorem dX12_isLine_221 : decode cX12_isLine 221 = .ok (.ifCond .eq 8, 3) := by decide +kernel
theorem dX12_isLine_224 : decode cX12_isLine 224 = .ok (.aload_n 0, 1) := by decide +kernel
theorem dX12_isLine_225 : decode cX12_isLine 225 = .ok (.invokevirtual 118, 3) := by decide +kernel
theorem dX12_isLine_228 : decode cX12_isLine 228 = .ok (.ireturn, 1) := by decide +kernel
theorem dX12_isLine_229 : decode cX12_isLine 229 = .ok (.aload_n 0, 1) := by decide +kernel
theorem dX12_isLine_230 : decode cX12_isLine 230 = .ok (.invokevirtual 115, 3) := by decide +kernel
theorem dX12_isLine_233 : decode cX12_isLine 233 = .ok (.aload_n 0, 1) := by decide +kernel
theorem dX12_isLine_234 : decode cX12_isLine 234 = .ok (.getfield 26, 3) := by decide +kernel
theorem dX12_isLine_237 : decode cX12_isLine 237 = .ok (.iload_n 1, 1) := by decide +kernel
theorem dX12_isLine_238 : decode cX12_isLine 238 = .ok (.iconst 2, 1) := by decide +kernel
theorem dX12_isLine_239 : decode cX12_isLine 239 = .ok (.iadd, 1) := by decide +kernel
theorem dX12_isLine_240 : decode cX12_isLine 240 = .ok (.aload_n 0, 1) := by decide +kernel
theorem dX12_isLine_241 : decode cX12_isLine 241 = .ok (.getfield 95, 3) := by decide +kernel
theorem dX12_isLine_244 : decode cX12_isLine 244 = .ok (.iastore, 1) := by decide +kernel
theorem dX12_isLine_245 : decode cX12_isLine 245 = .ok (.aload_n 0, 1) := by decide +kernel
theorem dX12_isLine_246 : decode cX12_isLine 246 = .ok (.getfield 26, 3) := by decide +kernel
theorem dX12_isLine_249 : decode cX12_isLine 249 = .ok (.iload_n 1, 1) := by decide +kernel
theorem dX12_isLine_250 : decode cX12_isLine 250 = .ok (.iconst 3, 1) := by decide +kernel
theorem dX12_isLine_251 : decode cX12_isLine 251 = .ok (.iadd, 1) := by decide +kernel
theorem dX12_isLine_252 : decode cX12_isLine 252 = .ok (.aload_n 0, 1) := by decide +kernel
theorem dX12_isLine_253 : decode cX12_isLine 253 = .ok (.invokevirtual 125, 3) := by decide +kernel
theorem dX12_isLine_256 : decode cX12_isLine 256 = .ok (.ldc2_w 145, 3) := by decide +kernel
theorem dX12_isLine_259 : decode cX12_isLine 259 = .ok (.lcmp, 1) := by decide +kernel
theorem dX12_isLine_260 : decode cX12_isLine 260 = .ok (.ifCond .ne 7, 3) := by decide +kernel
theorem dX12_isLine_263 : decode cX12_isLine 263 = .ok (.iconst 0, 1) := by decide +kernel
theorem dX12_isLine_264 : decode cX12_isLine 264 = .ok (.goto 7, 3) := by decide +kernel
theorem dX12_isLine_267 : decode cX12_isLine 267 = .ok (.aload_n 0, 1) := by decide +kernel
theorem dX12_isLine_268 : decode cX12_isLine 268 = .ok (.getfield 105, 3) := by decide +kernel
theorem dX12_isLine_271 : decode cX12_isLine 271 = .ok (.iastore, 1) := by decide +kernel
theorem dX12_isLine_272 : decode cX12_isLine 272 = .ok (.aload_n 0, 1) := by decide +kernel
theorem dX12_isLine_273 : decode cX12_isLine 273 = .ok (.invokevirtual 125, 3) := by decide +kernel
theorem dX12_isLine_276 : decode cX12_isLine 276 = .ok (.ldc2_w 145, 3) := by decide +kernel
theorem dX12_isLine_279 : decode cX12_isLine 279 = .ok (.lcmp, 1) := by decide +kernel
theorem dX12_isLine_280 : decode cX12_isLine 280 = .ok (.ifCond .eq 26, 3) := by decide +kernel
theorem dX12_isLine_283 : decode cX12_isLine 283 = .ok (.aload_n 0, 1) := by decide +kernel
theorem dX12_isLine_284 : decode cX12_isLine 284 = .ok (.invokevirtual 137, 3) := by decide +kernel
theorem dX12_isLine_287 : decode cX12_isLine 287 = .ok (.ifCond .eq 12, 3) := by decide +kernel
theorem dX12_isLine_290 : decode cX12_isLine 290 = .ok (.aload_n 0, 1) := by decide +kernel
theorem dX12_isLine_291 : decode cX12_isLine 291 = .ok (.getfield 105, 3) := by decide +kernel
theorem dX12_isLine_294 : decode cX12_isLine 294 = .ok (.bipush 25, 2) := by decide +kernel
theorem dX12_isLine_296 : decode cX12_isLine 296 = .ok (.if_icmp .lt 10, 3) := by decide +kernel
theorem dX12_isLine_299 : decode cX12_isLine 299 = .ok (.aload_n 0, 1) := by decide +kernel
theorem dX12_isLine_300 : decode cX12_isLine 300 = .ok (.invokevirtual 118, 3) := by decide +kernel
theorem dX12_isLine_303 : decode cX12_isLine 303 = .ok (.ifCond .eq 7, 3) := by decide +kernel
theorem dX12_isLine_306 : decode cX12_isLine 306 = .ok (.iconst 1, 1) := by decide +kernel
theorem dX12_isLine_307 : decode cX12_isLine 307 = .ok (.goto 4, 3) := by decide +kernel
theorem dX12_isLine_310 : decode cX12_isLine 310 = .ok (.iconst 0, 1) := by decide +kernel
theorem dX12_isLine_311 : decode cX12_isLine 311 = .ok (.ireturn, 1) := by decide +kernel
theorem dX12_isRead_0 : decode cX12_isRead 0 = .ok (.aload_n 0, 1) := by decide +kernel
theorem dX12_isRead_1 : decode cX12_isRead 1 = .ok (.iconst 0, 1) := by decide +kernel
theorem dX12_isRead_2 : decode cX12_isRead 2 = .ok (.putfield 92, 3) := by decide +kernel
theorem dX12_isRead_5 : decode cX12_isRead 5 = .ok (.aload_n 0, 1) := by decide +kernel
theorem dX12_isRead_6 : decode cX12_isRead 6 = .ok (.iconst 0, 1) := by decide +kernel
theorem dX12_isRead_7 : decode cX12_isRead 7 = .ok (.putfield 147, 3) := by decide +kernel
theorem dX12_isRead_10 : decode cX12_isRead 10 = .ok (.aload_n 0, 1) := by decide +kernel
theorem dX12_isRead_11 : decode cX12_isRead 11 = .ok (.aload_n 0, 1) := by decide +kernel
theorem dX12_isRead_12 : decode cX12_isRead 12 = .ok (.getfield 7, 3) := by decide +kernel
theorem dX12_isRead_15 : decode cX12_isRead 15 = .ok (.putfield 122, 3) := by decide +kernel
theorem dX12_isRead_18 : decode cX12_isRead 18 = .ok (.iconst 1, 1) := by decide +kernel
theorem dX12_isRead_19 : decode cX12_isRead 19 = .ok (.istore_n 1, 1) := by decide +kernel
theorem dX12_isRead_20 : decode cX12_isRead 20 = .ok (.iload_n 1, 1) := by decide +kernel
theorem dX12_isRead_21 : decode cX12_isRead 21 = .ok (.ifCond .eq 58, 3) := by decide +kernel
theorem dX12_isRead_24 : decode cX12_isRead 24 = .ok (.aload_n 0, 1) := by decide +kernel
theorem dX12_isRead_25 : decode cX12_isRead 25 = .ok (.iconst 4, 1) := by decide +kernel
theorem dX12_isRead_26 : decode cX12_isRead 26 = .ok (.aload_n 0, 1) := by decide +kernel
theorem dX12_isRead_27 : decode cX12_isRead 27 = .ok (.getfield 147, 3) := by decide +kernel
theorem dX12_isRead_30 : decode cX12_isRead 30 = .ok (.imul, 1) := by decide +kernel
theorem dX12_isRead_31 : decode cX12_isRead 31 = .ok (.invokevirtual 150, 3) := by decide +kernel
theorem dX12_isRead_34 : decode cX12_isRead 34 = .ok (.ifCond .ne 5, 3) := by decide +kernel
theorem dX12_isRead_37 : decode cX12_isRead 37 = .ok (.iconst 0, 1) := by decide +kernel
theorem dX12_isRead_38 : decode cX12_isRead 38 = .ok (.ireturn, 1) := by decide +kernel
theorem dX12_isRead_39 : decode cX12_isRead 39 = .ok (.aload_n 0, 1) := by decide +kernel
theorem dX12_isRead_40 : decode cX12_isRead 40 = .ok (.dup, 1) := by decide +kernel
theorem dX12_isRead_41 : decode cX12_isRead 41 = .ok (.getfield 147, 3) := by decide +kernel
theorem dX12_isRead_44 : decode cX12_isRead 44 = .ok (.iconst 1, 1) := by decide +kernel
theorem dX12_isRead_45 : decode cX12_isRead 45 = .ok (.iadd, 1) := by decide +kernel
theorem dX12_isRead_46 : decode cX12_isRead 46 = .ok (.putfield 147, 3) := by decide +kernel
theorem dX12_isRead_49 : decode cX12_isRead 49 = .ok (.aload_n 0, 1) := by decide +kernel
theorem dX12_isRead_50 : decode cX12_isRead 50 = .ok (.invokevirtual 115, 3) := by decide +kernel
theorem dX12_isRead_53 : decode cX12_isRead 53 = .ok (.aload_n 0, 1) := by decide +kernel
theorem dX12_isRead_54 : decode cX12_isRead 54 = .ok (.getfield 102, 3) := by decide +kernel
theorem dX12_isRead_57 : decode cX12_isRead 57 = .ok (.iconst 3, 1) := by decide +kernel
theorem dX12_isRead_58 : decode cX12_isRead 58 = .ok (.if_icmp .ne 16, 3) := by decide +kernel
theorem dX12_isRead_61 : decode cX12_isRead 61 = .ok (.aload_n 0, 1) := by decide +kernel
theorem dX12_isRead_62 : decode cX12_isRead 62 = .ok (.getfield 147, 3) := by decide +kernel
theorem dX12_isRead_65 : decode cX12_isRead 65 = .ok (.bipush 16, 2) := by decide +kernel
theorem dX12_isRead_67 : decode cX12_isRead 67 = .ok (.if_icmp .ge 7, 3) := by decide +kernel
theorem dX12_isRead_70 : decode cX12_isRead 70 = .ok (.iconst 1, 1) := by decide +kernel
theorem dX12_isRead_71 : decode cX12_isRead 71 = .ok (.goto 4, 3) := by decide +kernel
theorem dX12_isRead_74 : decode cX12_isRead 74 = .ok (.iconst 0, 1) := by decide +kernel
theorem dX12_isRead_75 : decode cX12_isRead 75 = .ok (.istore_n 1, 1) := by decide +kernel
theorem dX12_isRead_76 : decode cX12_isRead 76 = .ok (.goto (-56), 3) := by decide +kernel
theorem dX12_isRead_79 : decode cX12_isRead 79 = .ok (.aload_n 0, 1) := by decide +kernel
theorem dX12_isRead_80 : decode cX12_isRead 80 = .ok (.getfield 102, 3) := by decide +kernel
theorem dX12_isRead_83 : decode cX12_isRead 83 = .ok (.ifCond .eq 10, 3) := by decide +kernel
theorem dX12_isRead_86 : decode cX12_isRead 86 = .ok (.aload_n 0, 1) := by decide +kernel
theorem dX12_isRead_87 : decode cX12_isRead 87 = .ok (.invokevirtual 118, 3) := by decide +kernel
theorem dX12_isRead_90 : decode cX12_isRead 90 = .ok (.ifCond .eq 7, 3) := by decide +kernel
theorem dX12_isRead_93 : decode cX12_isRead 93 = .ok (.iconst 1, 1) := by decide +kernel
theorem dX12_isRead_94 : decode cX12_isRead 94 = .ok (.goto 4, 3) := by decide +kernel
theorem dX12_isRead_97 : decode cX12_isRead 97 = .ok (.iconst 0, 1) := by decide +kernel
theorem dX12_isRead_98 : decode cX12_isRead 98 = .ok (.ireturn, 1) := by decide +kernel
theorem dX12_fault_0 : decode cX12_fault 0 = .ok (.aload_n 0, 1) := by decide +kernel
theorem dX12_fault_1 : decode cX12_fault 1 = .ok (.invokevirtual 154, 3) := by decide +kernel
theorem dX12_fault_4 : decode cX12_fault 4 = .ok (.ifCond .eq 7, 3) := by decide +kernel
theorem dX12_fault_7 : decode cX12_fault 7 = .ok (.iconst (-1), 1) := by decide +kernel
theorem dX12_fault_8 : decode cX12_fault 8 = .ok (.goto 7, 3) := by decide +kernel
theorem dX12_fault_11 : decode cX12_fault 11 = .ok (.aload_n 0, 1) := by decide +kernel
theorem dX12_fault_12 : decode cX12_fault 12 = .ok (.getfield 108, 3) := by decide +kernel
theorem dX12_fault_15 : decode cX12_fault 15 = .ok (.ireturn, 1) := by decide +kernel
theorem dX12_tell_0 : decode cX12_tell 0 = .ok (.aload_n 0, 1) := by decide +kernel
theorem dX12_tell_1 : decode cX12_tell 1 = .ok (.getfield 13, 3) := by decide +kernel
theorem dX12_tell_4 : decode cX12_tell 4 = .ok (.iload_n 1, 1) := by decide +kernel
theorem dX12_tell_5 : decode cX12_tell 5 = .ok (.iload_n 3, 1) := by decide +kernel
theorem dX12_tell_6 : decode cX12_tell 6 = .ok (.ifCond .eq 16, 3) := by decide +kernel
theorem dX12_tell_9 : decode cX12_tell 9 = .ok (.aload_n 0, 1) := by decide +kernel
theorem dX12_tell_10 : decode cX12_tell 10 = .ok (.getfield 13, 3) := by decide +kernel
theorem dX12_tell_13 : decode cX12_tell 13 = .ok (.iload_n 1, 1) := by decide +kernel
theorem dX12_tell_14 : decode cX12_tell 14 = .ok (.iaload, 1) := by decide +kernel
theorem dX12_tell_15 : decode cX12_tell 15 = .ok (.iconst 1, 1) := by decide +kernel
theorem dX12_tell_16 : decode cX12_tell 16 = .ok (.iload_n 2, 1) := by decide +kernel
theorem dX12_tell_17 : decode cX12_tell 17 = .ok (.ishl, 1) := by decide +kernel
theorem dX12_tell_18 : decode cX12_tell 18 = .ok (.ior, 1) := by decide +kernel
theorem dX12_tell_19 : decode cX12_tell 19 = .ok (.goto 15, 3) := by decide +kernel
theorem dX12_tell_22 : decode cX12_tell 22 = .ok (.aload_n 0, 1) := by decide +kernel
theorem dX12_tell_23 : decode cX12_tell 23 = .ok (.getfield 13, 3) := by decide +kernel
theorem dX12_tell_26 : decode cX12_tell 26 = .ok (.iload_n 1, 1) := by decide +kernel
theorem dX12_tell_27 : decode cX12_tell 27 = .ok (.iaload, 1) := by decide +kernel
theorem dX12_tell_28 : decode cX12_tell 28 = .ok (.iconst 1, 1) := by decide +kernel
theorem dX12_tell_29 : decode cX12_tell 29 = .ok (.iload_n 2, 1) := by decide +kernel
theorem dX12_tell_30 : decode cX12_tell 30 = .ok (.ishl, 1) := by decide +kernel
theorem dX12_tell_31 : decode cX12_tell 31 = .ok (.iconst (-1), 1) := by decide +kernel
theorem dX12_tell_32 : decode cX12_tell 32 = .ok (.ixor, 1) := by decide +kernel
theorem dX12_tell_33 : decode cX12_tell 33 = .ok (.iand, 1) := by decide +kernel
theorem dX12_tell_34 : decode cX12_tell 34 = .ok (.iastore, 1) := by decide +kernel
theorem dX12_tell_35 : decode cX12_tell 35 = .ok (.aload_n 0, 1) := by decide +kernel
theorem dX12_tell_36 : decode cX12_tell 36 = .ok (.getfield 13, 3) := by decide +kernel
theorem dX12_tell_39 : decode cX12_tell 39 = .ok (.iload_n 2, 1) := by decide +kernel
theorem dX12_tell_40 : decode cX12_tell 40 = .ok (.iload_n 3, 1) := by decide +kernel
theorem dX12_tell_41 : decode cX12_tell 41 = .ok (.ifCond .eq 16, 3) := by decide +kernel
theorem dX12_tell_44 : decode cX12_tell 44 = .ok (.aload_n 0, 1) := by decide +kernel
theorem dX12_tell_45 : decode cX12_tell 45 = .ok (.getfield 13, 3) := by decide +kernel
theorem dX12_tell_48 : decode cX12_tell 48 = .ok (.iload_n 2, 1) := by decide +kernel
theorem dX12_tell_49 : decode cX12_tell 49 = .ok (.iaload, 1) := by decide +kernel
theorem dX12_tell_50 : decode cX12_tell 50 = .ok (.iconst 1, 1) := by decide +kernel
theorem dX12_tell_51 : decode cX12_tell 51 = .ok (.iload_n 1, 1) := by decide +kernel
theorem dX12_tell_52 : decode cX12_tell 52 = .ok (.ishl, 1) := by decide +kernel
theorem dX12_tell_53 : decode cX12_tell 53 = .ok (.ior, 1) := by decide +kernel
theorem dX12_tell_54 : decode cX12_tell 54 = .ok (.goto 15, 3) := by decide +kernel
theorem dX12_tell_57 : decode cX12_tell 57 = .ok (.aload_n 0, 1) := by decide +kernel
theorem dX12_tell_58 : decode cX12_tell 58 = .ok (.getfield 13, 3) := by decide +kernel
theorem dX12_tell_61 : decode cX12_tell 61 = .ok (.iload_n 2, 1) := by decide +kernel
theorem dX12_tell_62 : decode cX12_tell 62 = .ok (.iaload, 1) := by decide +kernel
theorem dX12_tell_63 : decode cX12_tell 63 = .ok (.iconst 1, 1) := by decide +kernel
theorem dX12_tell_64 : decode cX12_tell 64 = .ok (.iload_n 1, 1) := by decide +kernel
theorem dX12_tell_65 : decode cX12_tell 65 = .ok (.ishl, 1) := by decide +kernel
theorem dX12_tell_66 : decode cX12_tell 66 = .ok (.iconst (-1), 1) := by decide +kernel
theorem dX12_tell_67 : decode cX12_tell 67 = .ok (.ixor, 1) := by decide +kernel
theorem dX12_tell_68 : decode cX12_tell 68 = .ok (.iand, 1) := by decide +kernel
theorem dX12_tell_69 : decode cX12_tell 69 = .ok (.iastore, 1) := by decide +kernel
theorem dX12_tell_70 : decode cX12_tell 70 = .ok (.return_, 1) := by decide +kernel
theorem dX12_doLine_0 : decode cX12_doLine 0 = .ok (.aload_n 0, 1) := by decide +kernel
theorem dX12_doLine_1 : decode cX12_doLine 1 = .ok (.getfield 26, 3) := by decide +kernel
theorem dX12_doLine_4 : decode cX12_doLine 4 = .ok (.iload_n 1, 1) := by decide +kernel
theorem dX12_doLine_5 : decode cX12_doLine 5 = .ok (.iconst 1, 1) := by decide +kernel
theorem dX12_doLine_6 : decode cX12_doLine 6 = .ok (.iadd, 1) := by decide +kernel
theorem dX12_doLine_7 : decode cX12_doLine 7 = .ok (.iaload, 1) := by decide +kernel
theorem dX12_doLine_8 : decode cX12_doLine 8 = .ok (.istore_n 2, 1) := by decide +kernel
theorem dX12_doLine_9 : decode cX12_doLine 9 = .ok (.aload_n 0, 1) := by decide +kernel
theorem dX12_doLine_10 : decode cX12_doLine 10 = .ok (.getfield 26, 3) := by decide +kernel
theorem dX12_doLine_13 : decode cX12_doLine 13 = .ok (.iload_n 1, 1) := by decide +kernel
theorem dX12_doLine_14 : decode cX12_doLine 14 = .ok (.iaload, 1) := by decide +kernel
theorem dX12_doLine_15 : decode cX12_doLine 15 = .ok (.iconst 2, 1) := by decide +kernel
theorem dX12_doLine_16 : decode cX12_doLine 16 = .ok (.if_icmp .ge 44, 3) := by decide +kernel
theorem dX12_doLine_19 : decode cX12_doLine 19 = .ok (.aload_n 0, 1) := by decide +kernel
theorem dX12_doLine_20 : decode cX12_doLine 20 = .ok (.aload_n 0, 1) := by decide +kernel
theorem dX12_doLine_21 : decode cX12_doLine 21 = .ok (.getfield 23, 3) := by decide +kernel
theorem dX12_doLine_24 : decode cX12_doLine 24 = .ok (.iload_n 2, 1) := by decide +kernel
theorem dX12_doLine_25 : decode cX12_doLine 25 = .ok (.iaload, 1) := by decide +kernel
theorem dX12_doLine_26 : decode cX12_doLine 26 = .ok (.bipush 97, 2) := by decide +kernel
theorem dX12_doLine_28 : decode cX12_doLine 28 = .ok (.isub, 1) := by decide +kernel
theorem dX12_doLine_29 : decode cX12_doLine 29 = .ok (.aload_n 0, 1) := by decide +kernel
theorem dX12_doLine_30 : decode cX12_doLine 30 = .ok (.getfield 23, 3) := by decide +kernel
theorem dX12_doLine_33 : decode cX12_doLine 33 = .ok (.iload_n 2, 1) := by decide +kernel
theorem dX12_doLine_34 : decode cX12_doLine 34 = .ok (.iconst 1, 1) := by decide +kernel
theorem dX12_doLine_35 : decode cX12_doLine 35 = .ok (.iadd, 1) := by decide +kernel
theorem dX12_doLine_36 : decode cX12_doLine 36 = .ok (.iaload, 1) := by decide +kernel
theorem dX12_doLine_37 : decode cX12_doLine 37 = .ok (.bipush 97, 2) := by decide +kernel
theorem dX12_doLine_39 : decode cX12_doLine 39 = .ok (.isub, 1) := by decide +kernel
theorem dX12_doLine_40 : decode cX12_doLine 40 = .ok (.aload_n 0, 1) := by decide +kernel
theorem dX12_doLine_41 : decode cX12_doLine 41 = .ok (.getfield 26, 3) := by decide +kernel
theorem dX12_doLine_44 : decode cX12_doLine 44 = .ok (.iload_n 1, 1) := by decide +kernel
theorem dX12_doLine_45 : decode cX12_doLine 45 = .ok (.iaload, 1) := by decide +kernel
theorem dX12_doLine_46 : decode cX12_doLine 46 = .ok (.ifCond .ne 7, 3) := by decide +kernel
theorem dX12_doLine_49 : decode cX12_doLine 49 = .ok (.iconst 1, 1) := by decide +kernel
theorem dX12_doLine_50 : decode cX12_doLine 50 = .ok (.goto 4, 3) := by decide +kernel
theorem dX12_doLine_53 : decode cX12_doLine 53 = .ok (.iconst 0, 1) := by decide +kernel
theorem dX12_doLine_54 : decode cX12_doLine 54 = .ok (.invokevirtual 157, 3) := by decide +kernel
theorem dX12_doLine_57 : decode cX12_doLine 57 = .ok (.goto 123, 3) := by decide +kernel
theorem dX12_doLine_60 : decode cX12_doLine 60 = .ok (.aload_n 0, 1) := by decide +kernel
theorem dX12_doLine_61 : decode cX12_doLine 61 = .ok (.getfield 26, 3) := by decide +kernel
theorem dX12_doLine_64 : decode cX12_doLine 64 = .ok (.iload_n 1, 1) := by decide +kernel
theorem dX12_doLine_65 : decode cX12_doLine 65 = .ok (.iaload, 1) := by decide +kernel
theorem dX12_doLine_66 : decode cX12_doLine 66 = .ok (.iconst 2, 1) := by decide +kernel
theorem dX12_doLine_67 : decode cX12_doLine 67 = .ok (.if_icmp .ne 52, 3) := by decide +kernel
theorem dX12_doLine_70 : decode cX12_doLine 70 = .ok (.aload_n 0, 1) := by decide +kernel
theorem dX12_doLine_71 : decode cX12_doLine 71 = .ok (.iload_n 2, 1) := by decide +kernel
theorem dX12_doLine_72 : decode cX12_doLine 72 = .ok (.putfield 7, 3) := by decide +kernel
theorem dX12_doLine_75 : decode cX12_doLine 75 = .ok (.iconst 0, 1) := by decide +kernel
theorem dX12_doLine_76 : decode cX12_doLine 76 = .ok (.istore_n 3, 1) := by decide +kernel
theorem dX12_doLine_77 : decode cX12_doLine 77 = .ok (.iload_n 3, 1) := by decide +kernel
theorem dX12_doLine_78 : decode cX12_doLine 78 = .ok (.bipush 6, 2) := by decide +kernel
theorem dX12_doLine_80 : decode cX12_doLine 80 = .ok (.if_icmp .ge 16, 3) := by decide +kernel
theorem dX12_doLine_83 : decode cX12_doLine 83 = .ok (.aload_n 0, 1) := by decide +kernel
theorem dX12_doLine_84 : decode cX12_doLine 84 = .ok (.getfield 13, 3) := by decide +kernel
theorem dX12_doLine_87 : decode cX12_doLine 87 = .ok (.iload_n 3, 1) := by decide +kernel
theorem dX12_doLine_88 : decode cX12_doLine 88 = .ok (.iconst 0, 1) := by decide +kernel
theorem dX12_doLine_89 : decode cX12_doLine 89 = .ok (.iastore, 1) := by decide +kernel
theorem dX12_doLine_90 : decode cX12_doLine 90 = .ok (.iinc 3 1, 3) := by decide +kernel
theorem dX12_doLine_93 : decode cX12_doLine 93 = .ok (.goto (-16), 3) := by decide +kernel
theorem dX12_doLine_96 : decode cX12_doLine 96 = .ok (.iconst 0, 1) := by decide +kernel
theorem dX12_doLine_97 : decode cX12_doLine 97 = .ok (.istore_n 3, 1) := by decide +kernel
theorem dX12_doLine_98 : decode cX12_doLine 98 = .ok (.iload_n 3, 1) := by decide +kernel
theorem dX12_doLine_99 : decode cX12_doLine 99 = .ok (.iconst 4, 1) := by decide +kernel
theorem dX12_doLine_100 : decode cX12_doLine 100 = .ok (.if_icmp .ge 16, 3) := by decide +kernel
theorem dX12_doLine_103 : decode cX12_doLine 103 = .ok (.aload_n 0, 1) := by decide +kernel
theorem dX12_doLine_104 : decode cX12_doLine 104 = .ok (.getfield 17, 3) := by decide +kernel
theorem dX12_doLine_107 : decode cX12_doLine 107 = .ok (.iload_n 3, 1) := by decide +kernel
theorem dX12_doLine_108 : decode cX12_doLine 108 = .ok (.iconst 0, 1) := by decide +kernel
theorem dX12_doLine_109 : decode cX12_doLine 109 = .ok (.iastore, 1) := by decide +kernel
theorem dX12_doLine_110 : decode cX12_doLine 110 = .ok (.iinc 3 1, 3) := by decide +kernel
theorem dX12_doLine_113 : decode cX12_doLine 113 = .ok (.goto (-15), 3) := by decide +kernel
theorem dX12_doLine_116 : decode cX12_doLine 116 = .ok (.goto 64, 3) := by decide +kernel
theorem dX12_doLine_119 : decode cX12_doLine 119 = .ok (.aload_n 0, 1) := by decide +kernel
theorem dX12_doLine_120 : decode cX12_doLine 120 = .ok (.getfield 17, 3) := by decide +kernel
theorem dX12_doLine_123 : decode cX12_doLine 123 = .ok (.iload_n 2, 1) := by decide +kernel
theorem dX12_doLine_124 : decode cX12_doLine 124 = .ok (.aload_n 0, 1) := by decide +kernel
theorem dX12_doLine_125 : decode cX12_doLine 125 = .ok (.getfield 26, 3) := by decide +kernel
theorem dX12_doLine_128 : decode cX12_doLine 128 = .ok (.iload_n 1, 1) := by decide +kernel
theorem dX12_doLine_129 : decode cX12_doLine 129 = .ok (.iconst 3, 1) := by decide +kernel
theorem dX12_doLine_130 : decode cX12_doLine 130 = .ok (.iadd, 1) := by decide +kernel
theorem dX12_doLine_131 : decode cX12_doLine 131 = .ok (.iaload, 1) := by decide +kernel
theorem dX12_doLine_132 : decode cX12_doLine 132 = .ok (.iastore, 1) := by decide +kernel
theorem dX12_doLine_133 : decode cX12_doLine 133 = .ok (.iconst 0, 1) := by decide +kernel
theorem dX12_doLine_134 : decode cX12_doLine 134 = .ok (.istore_n 3, 1) := by decide +kernel
theorem dX12_doLine_135 : decode cX12_doLine 135 = .ok (.iload_n 3, 1) := by decide +kernel
theorem dX12_doLine_136 : decode cX12_doLine 136 = .ok (.aload_n 0, 1) := by decide +kernel
theorem dX12_doLine_137 : decode cX12_doLine 137 = .ok (.getfield 17, 3) := by decide +kernel
theorem dX12_doLine_140 : decode cX12_doLine 140 = .ok (.iload_n 2, 1) := by decide +kernel
theorem dX12_doLine_141 : decode cX12_doLine 141 = .ok (.iaload, 1) := by decide +kernel
theorem dX12_doLine_142 : decode cX12_doLine 142 = .ok (.if_icmp .ge 38, 3) := by decide +kernel
theorem dX12_doLine_145 : decode cX12_doLine 145 = .ok (.aload_n 0, 1) := by decide +kernel
theorem dX12_doLine_146 : decode cX12_doLine 146 = .ok (.getfield 20, 3) := by decide +kernel
theorem dX12_doLine_149 : decode cX12_doLine 149 = .ok (.bipush 24, 2) := by decide +kernel
theorem dX12_doLine_151 : decode cX12_doLine 151 = .ok (.iload_n 2, 1) := by decide +kernel
theorem dX12_doLine_152 : decode cX12_doLine 152 = .ok (.imul, 1) := by decide +kernel
theorem dX12_doLine_153 : decode cX12_doLine 153 = .ok (.iload_n 3, 1) := by decide +kernel
theorem dX12_doLine_154 : decode cX12_doLine 154 = .ok (.iadd, 1) := by decide +kernel
theorem dX12_doLine_155 : decode cX12_doLine 155 = .ok (.aload_n 0, 1) := by decide +kernel
theorem dX12_doLine_156 : decode cX12_doLine 156 = .ok (.getfield 23, 3) := by decide +kernel
theorem dX12_doLine_159 : decode cX12_doLine 159 = .ok (.aload_n 0, 1) := by decide +kernel
theorem dX12_doLine_160 : decode cX12_doLine 160 = .ok (.getfield 26, 3) := by decide +kernel
theorem dX12_doLine_163 : decode cX12_doLine 163 = .ok (.iload_n 1, 1) := by decide +kernel
theorem dX12_doLine_164 : decode cX12_doLine 164 = .ok (.iconst 2, 1) := by decide +kernel
theorem dX12_doLine_165 : decode cX12_doLine 165 = .ok (.iadd, 1) := by decide +kernel
theorem dX12_doLine_166 : decode cX12_doLine 166 = .ok (.iaload, 1) := by decide +kernel
theorem dX12_doLine_167 : decode cX12_doLine 167 = .ok (.iload_n 3, 1) := by decide +kernel
theorem dX12_doLine_168 : decode cX12_doLine 168 = .ok (.iadd, 1) := by decide +kernel
theorem dX12_doLine_169 : decode cX12_doLine 169 = .ok (.iaload, 1) := by decide +kernel
theorem dX12_doLine_170 : decode cX12_doLine 170 = .ok (.bipush 97, 2) := by decide +kernel
theorem dX12_doLine_172 : decode cX12_doLine 172 = .ok (.isub, 1) := by decide +kernel
theorem dX12_doLine_173 : decode cX12_doLine 173 = .ok (.iastore, 1) := by decide +kernel
theorem dX12_doLine_174 : decode cX12_doLine 174 = .ok (.iinc 3 1, 3) := by decide +kernel
theorem dX12_doLine_177 : decode cX12_doLine 177 = .ok (.goto (-42), 3) := by decide +kernel
theorem dX12_doLine_180 : decode cX12_doLine 180 = .ok (.return_, 1) := by decide +kernel
theorem dX12_told_0 : decode cX12_told 0 = .ok (.aload_n 0, 1) := by decide +kernel
theorem dX12_told_1 : decode cX12_told 1 = .ok (.invokevirtual 154, 3) := by decide +kernel
theorem dX12_told_4 : decode cX12_told 4 = .ok (.ifCond .ne 6, 3) := by decide +kernel
theorem dX12_told_7 : decode cX12_told 7 = .ok (.bipush (-4), 2) := by decide +kernel
theorem dX12_told_9 : decode cX12_told 9 = .ok (.ireturn, 1) := by decide +kernel
theorem dX12_told_10 : decode cX12_told 10 = .ok (.iconst 0, 1) := by decide +kernel
theorem dX12_told_11 : decode cX12_told 11 = .ok (.istore_n 1, 1) := by decide +kernel
theorem dX12_told_12 : decode cX12_told 12 = .ok (.iload_n 1, 1) := by decide +kernel
theorem dX12_told_13 : decode cX12_told 13 = .ok (.aload_n 0, 1) := by decide +kernel
theorem dX12_told_14 : decode cX12_told 14 = .ok (.getfield 147, 3) := by decide +kernel
theorem dX12_told_17 : decode cX12_told 17 = .ok (.if_icmp .ge 16, 3) := by decide +kernel
theorem dX12_told_20 : decode cX12_told 20 = .ok (.aload_n 0, 1) := by decide +kernel
theorem dX12_told_21 : decode cX12_told 21 = .ok (.iconst 4, 1) := by decide +kernel
theorem dX12_told_22 : decode cX12_told 22 = .ok (.iload_n 1, 1) := by decide +kernel
theorem dX12_told_23 : decode cX12_told 23 = .ok (.imul, 1) := by decide +kernel
theorem dX12_told_24 : decode cX12_told 24 = .ok (.invokevirtual 161, 3) := by decide +kernel
theorem dX12_told_27 : decode cX12_told 27 = .ok (.iinc 1 1, 3) := by decide +kernel
theorem dX12_told_30 : decode cX12_told 30 = .ok (.goto (-18), 3) := by decide +kernel
theorem dX12_told_33 : decode cX12_told 33 = .ok (.aload_n 0, 1) := by decide +kernel
theorem dX12_told_34 : decode cX12_told 34 = .ok (.iconst 0, 1) := by decide +kernel
theorem dX12_told_35 : decode cX12_told 35 = .ok (.putfield 87, 3) := by decide +kernel
theorem dX12_told_38 : decode cX12_told 38 = .ok (.aload_n 0, 1) := by decide +kernel
theorem dX12_told_39 : decode cX12_told 39 = .ok (.getfield 147, 3) := by decide +kernel
theorem dX12_told_42 : decode cX12_told 42 = .ok (.ireturn, 1) := by decide +kernel
theorem dX12_free_0 : decode cX12_free 0 = .ok (.aload_n 0, 1) := by decide +kernel
theorem dX12_free_1 : decode cX12_free 1 = .ok (.iload_n 1, 1) := by decide +kernel
theorem dX12_free_2 : decode cX12_free 2 = .ok (.invokevirtual 165, 3) := by decide +kernel
theorem dX12_free_5 : decode cX12_free 5 = .ok (.ifCond .eq 16, 3) := by decide +kernel
theorem dX12_free_8 : decode cX12_free 8 = .ok (.aload_n 0, 1) := by decide +kernel
theorem dX12_free_9 : decode cX12_free 9 = .ok (.iload_n 2, 1) := by decide +kernel
theorem dX12_free_10 : decode cX12_free 10 = .ok (.invokevirtual 165, 3) := by decide +kernel
theorem dX12_free_13 : decode cX12_free 13 = .ok (.ifCond .eq 8, 3) := by decide +kernel
theorem dX12_free_16 : decode cX12_free 16 = .ok (.iload_n 1, 1) := by decide +kernel
theorem dX12_free_17 : decode cX12_free 17 = .ok (.iload_n 2, 1) := by decide +kernel
theorem dX12_free_18 : decode cX12_free 18 = .ok (.if_icmp .ne 6, 3) := by decide +kernel
theorem dX12_free_21 : decode cX12_free 21 = .ok (.bipush (-2), 2) := by decide +kernel
theorem dX12_free_23 : decode cX12_free 23 = .ok (.ireturn, 1) := by decide +kernel
theorem dX12_free_24 : decode cX12_free 24 = .ok (.aload_n 0, 1) := by decide +kernel
theorem dX12_free_25 : decode cX12_free 25 = .ok (.iload_n 1, 1) := by decide +kernel
theorem dX12_free_26 : decode cX12_free 26 = .ok (.iload_n 2, 1) := by decide +kernel
theorem dX12_free_27 : decode cX12_free 27 = .ok (.invokevirtual 168, 3) := by decide +kernel
theorem dX12_free_30 : decode cX12_free 30 = .ok (.ifCond .eq 7, 3) := by decide +kernel
theorem dX12_free_33 : decode cX12_free 33 = .ok (.iconst 1, 1) := by decide +kernel
theorem dX12_free_34 : decode cX12_free 34 = .ok (.goto 4, 3) := by decide +kernel
theorem dX12_free_37 : decode cX12_free 37 = .ok (.iconst 0, 1) := by decide +kernel
theorem dX12_free_38 : decode cX12_free 38 = .ok (.istore 4, 2) := by decide +kernel
theorem dX12_free_40 : decode cX12_free 40 = .ok (.aload_n 0, 1) := by decide +kernel
theorem dX12_free_41 : decode cX12_free 41 = .ok (.iload_n 1, 1) := by decide +kernel
theorem dX12_free_42 : decode cX12_free 42 = .ok (.iload_n 2, 1) := by decide +kernel
theorem dX12_free_43 : decode cX12_free 43 = .ok (.iload_n 3, 1) := by decide +kernel
theorem dX12_free_44 : decode cX12_free 44 = .ok (.invokevirtual 157, 3) := by decide +kernel
theorem dX12_free_47 : decode cX12_free 47 = .ok (.iload 4, 2) := by decide +kernel
theorem dX12_free_49 : decode cX12_free 49 = .ok (.ireturn, 1) := by decide +kernel
theorem dX12_add_0 : decode cX12_add 0 = .ok (.iload_n 1, 1) := by decide +kernel
theorem dX12_add_1 : decode cX12_add 1 = .ok (.invokestatic 172, 3) := by decide +kernel
theorem dX12_add_4 : decode cX12_add 4 = .ok (.ifCond .eq 11, 3) := by decide +kernel
theorem dX12_add_7 : decode cX12_add 7 = .ok (.aload_n 0, 1) := by decide +kernel
theorem dX12_add_8 : decode cX12_add 8 = .ok (.iload_n 2, 1) := by decide +kernel
theorem dX12_add_9 : decode cX12_add 9 = .ok (.invokevirtual 165, 3) := by decide +kernel
theorem dX12_add_12 : decode cX12_add 12 = .ok (.ifCond .ne 6, 3) := by decide +kernel
theorem dX12_add_15 : decode cX12_add 15 = .ok (.bipush (-2), 2) := by decide +kernel
theorem dX12_add_17 : decode cX12_add 17 = .ok (.ireturn, 1) := by decide +kernel
theorem dX12_add_18 : decode cX12_add 18 = .ok (.aload_n 0, 1) := by decide +kernel
theorem dX12_add_19 : decode cX12_add 19 = .ok (.getfield 17, 3) := by decide +kernel
theorem dX12_add_22 : decode cX12_add 22 = .ok (.iload_n 1, 1) := by decide +kernel
theorem dX12_add_23 : decode cX12_add 23 = .ok (.iaload, 1) := by decide +kernel
theorem dX12_add_24 : decode cX12_add 24 = .ok (.bipush 24, 2) := by decide +kernel
theorem dX12_add_26 : decode cX12_add 26 = .ok (.if_icmp .ne 6, 3) := by decide +kernel
theorem dX12_add_29 : decode cX12_add 29 = .ok (.bipush (-5), 2) := by decide +kernel
theorem dX12_add_31 : decode cX12_add 31 = .ok (.ireturn, 1) := by decide +kernel
theorem dX12_add_32 : decode cX12_add 32 = .ok (.aload_n 0, 1) := by decide +kernel
theorem dX12_add_33 : decode cX12_add 33 = .ok (.getfield 20, 3) := by decide +kernel
theorem dX12_add_36 : decode cX12_add 36 = .ok (.bipush 24, 2) := by decide +kernel
theorem dX12_add_38 : decode cX12_add 38 = .ok (.iload_n 1, 1) := by decide +kernel
theorem dX12_add_39 : decode cX12_add 39 = .ok (.imul, 1) := by decide +kernel
theorem dX12_add_40 : decode cX12_add 40 = .ok (.aload_n 0, 1) := by decide +kernel
theorem dX12_add_41 : decode cX12_add 41 = .ok (.getfield 17, 3) := by decide +kernel
theorem dX12_add_44 : decode cX12_add 44 = .ok (.iload_n 1, 1) := by decide +kernel
theorem dX12_add_45 : decode cX12_add 45 = .ok (.iaload, 1) := by decide +kernel
theorem dX12_add_46 : decode cX12_add 46 = .ok (.iadd, 1) := by decide +kernel
theorem dX12_add_47 : decode cX12_add 47 = .ok (.iload_n 2, 1) := by decide +kernel
theorem dX12_add_48 : decode cX12_add 48 = .ok (.iastore, 1) := by decide +kernel
theorem dX12_add_49 : decode cX12_add 49 = .ok (.aload_n 0, 1) := by decide +kernel
theorem dX12_add_50 : decode cX12_add 50 = .ok (.getfield 17, 3) := by decide +kernel
theorem dX12_add_53 : decode cX12_add 53 = .ok (.iload_n 1, 1) := by decide +kernel
theorem dX12_add_54 : decode cX12_add 54 = .ok (.dup2, 1) := by decide +kernel
theorem dX12_add_55 : decode cX12_add 55 = .ok (.iaload, 1) := by decide +kernel
theorem dX12_add_56 : decode cX12_add 56 = .ok (.iconst 1, 1) := by decide +kernel
theorem dX12_add_57 : decode cX12_add 57 = .ok (.iadd, 1) := by decide +kernel
theorem dX12_add_58 : decode cX12_add 58 = .ok (.iastore, 1) := by decide +kernel
theorem dX12_add_59 : decode cX12_add 59 = .ok (.aload_n 0, 1) := by decide +kernel
theorem dX12_add_60 : decode cX12_add 60 = .ok (.getfield 17, 3) := by decide +kernel
theorem dX12_add_63 : decode cX12_add 63 = .ok (.iload_n 1, 1) := by decide +kernel
theorem dX12_add_64 : decode cX12_add 64 = .ok (.iaload, 1) := by decide +kernel
theorem dX12_add_65 : decode cX12_add 65 = .ok (.ireturn, 1) := by decide +kernel
theorem dX12_clear_0 : decode cX12_clear 0 = .ok (.iload_n 1, 1) := by decide +kernel
theorem dX12_clear_1 : decode cX12_clear 1 = .ok (.invokestatic 172, 3) := by decide +kernel
theorem dX12_clear_4 : decode cX12_clear 4 = .ok (.ifCond .ne 6, 3) := by decide +kernel
theorem dX12_clear_7 : decode cX12_clear 7 = .ok (.bipush (-2), 2) := by decide +kernel
theorem dX12_clear_9 : decode cX12_clear 9 = .ok (.ireturn, 1) := by decide +kernel
theorem dX12_clear_10 : decode cX12_clear 10 = .ok (.aload_n 0, 1) := by decide +kernel
theorem dX12_clear_11 : decode cX12_clear 11 = .ok (.getfield 17, 3) := by decide +kernel
theorem dX12_clear_14 : decode cX12_clear 14 = .ok (.iload_n 1, 1) := by decide +kernel
theorem dX12_clear_15 : decode cX12_clear 15 = .ok (.iaload, 1) := by decide +kernel
theorem dX12_clear_16 : decode cX12_clear 16 = .ok (.istore_n 2, 1) := by decide +kernel
theorem dX12_clear_17 : decode cX12_clear 17 = .ok (.aload_n 0, 1) := by decide +kernel
theorem dX12_clear_18 : decode cX12_clear 18 = .ok (.getfield 17, 3) := by decide +kernel
theorem dX12_clear_21 : decode cX12_clear 21 = .ok (.iload_n 1, 1) := by decide +kernel
theorem dX12_clear_22 : decode cX12_clear 22 = .ok (.iconst 0, 1) := by decide +kernel
theorem dX12_clear_23 : decode cX12_clear 23 = .ok (.iastore, 1) := by decide +kernel
theorem dX12_clear_24 : decode cX12_clear 24 = .ok (.iload_n 2, 1) := by decide +kernel
theorem dX12_clear_25 : decode cX12_clear 25 = .ok (.ireturn, 1) := by decide +kernel
theorem dX12_take_0 : decode cX12_take 0 = .ok (.iconst 0, 1) := by decide +kernel
theorem dX12_take_1 : decode cX12_take 1 = .ok (.istore_n 3, 1) := by decide +kernel
theorem dX12_take_2 : decode cX12_take 2 = .ok (.iload_n 3, 1) := by decide +kernel
theorem dX12_take_3 : decode cX12_take 3 = .ok (.aload_n 0, 1) := by decide +kernel
theorem dX12_take_4 : decode cX12_take 4 = .ok (.getfield 17, 3) := by decide +kernel
theorem dX12_take_7 : decode cX12_take 7 = .ok (.iload_n 1, 1) := by decide +kernel
theorem dX12_take_8 : decode cX12_take 8 = .ok (.iaload, 1) := by decide +kernel
theorem dX12_take_9 : decode cX12_take 9 = .ok (.if_icmp .ge 23, 3) := by decide +kernel
theorem dX12_take_12 : decode cX12_take 12 = .ok (.aload_n 2, 1) := by decide +kernel
theorem dX12_take_13 : decode cX12_take 13 = .ok (.iload_n 3, 1) := by decide +kernel
theorem dX12_take_14 : decode cX12_take 14 = .ok (.aload_n 0, 1) := by decide +kernel
theorem dX12_take_15 : decode cX12_take 15 = .ok (.getfield 20, 3) := by decide +kernel
theorem dX12_take_18 : decode cX12_take 18 = .ok (.bipush 24, 2) := by decide +kernel
theorem dX12_take_20 : decode cX12_take 20 = .ok (.iload_n 1, 1) := by decide +kernel
theorem dX12_take_21 : decode cX12_take 21 = .ok (.imul, 1) := by decide +kernel
theorem dX12_take_22 : decode cX12_take 22 = .ok (.iload_n 3, 1) := by decide +kernel
theorem dX12_take_23 : decode cX12_take 23 = .ok (.iadd, 1) := by decide +kernel
theorem dX12_take_24 : decode cX12_take 24 = .ok (.iaload, 1) := by decide +kernel
theorem dX12_take_25 : decode cX12_take 25 = .ok (.iastore, 1) := by decide +kernel
theorem dX12_take_26 : decode cX12_take 26 = .ok (.iinc 3 1, 3) := by decide +kernel
theorem dX12_take_29 : decode cX12_take 29 = .ok (.goto (-27), 3) := by decide +kernel
theorem dX12_take_32 : decode cX12_take 32 = .ok (.return_, 1) := by decide +kernel
theorem dX12_firstOf_0 : decode cX12_firstOf 0 = .ok (.iconst 0, 1) := by decide +kernel
theorem dX12_firstOf_1 : decode cX12_firstOf 1 = .ok (.istore 4, 2) := by decide +kernel
theorem dX12_firstOf_3 : decode cX12_firstOf 3 = .ok (.iload 4, 2) := by decide +kernel
theorem dX12_firstOf_5 : decode cX12_firstOf 5 = .ok (.iload_n 2, 1) := by decide +kernel
theorem dX12_firstOf_6 : decode cX12_firstOf 6 = .ok (.if_icmp .ge 44, 3) := by decide +kernel
theorem dX12_firstOf_9 : decode cX12_firstOf 9 = .ok (.aload_n 0, 1) := by decide +kernel
theorem dX12_firstOf_10 : decode cX12_firstOf 10 = .ok (.getfield 38, 3) := by decide +kernel
theorem dX12_firstOf_13 : decode cX12_firstOf 13 = .ok (.iload 4, 2) := by decide +kernel
theorem dX12_firstOf_15 : decode cX12_firstOf 15 = .ok (.baload, 1) := by decide +kernel
theorem dX12_firstOf_16 : decode cX12_firstOf 16 = .ok (.ifCond .ne 28, 3) := by decide +kernel
theorem dX12_firstOf_19 : decode cX12_firstOf 19 = .ok (.aload_n 1, 1) := by decide +kernel
theorem dX12_firstOf_20 : decode cX12_firstOf 20 = .ok (.iload 4, 2) := by decide +kernel
theorem dX12_firstOf_22 : decode cX12_firstOf 22 = .ok (.iaload, 1) := by decide +kernel
theorem dX12_firstOf_23 : decode cX12_firstOf 23 = .ok (.iload_n 3, 1) := by decide +kernel
theorem dX12_firstOf_24 : decode cX12_firstOf 24 = .ok (.if_icmp .ne 6, 3) := by decide +kernel
theorem dX12_firstOf_27 : decode cX12_firstOf 27 = .ok (.iload 4, 2) := by decide +kernel
theorem dX12_firstOf_29 : decode cX12_firstOf 29 = .ok (.ireturn, 1) := by decide +kernel
theorem dX12_firstOf_30 : decode cX12_firstOf 30 = .ok (.aload_n 0, 1) := by decide +kernel
theorem dX12_firstOf_31 : decode cX12_firstOf 31 = .ok (.aload_n 1, 1) := by decide +kernel
theorem dX12_firstOf_32 : decode cX12_firstOf 32 = .ok (.iload 4, 2) := by decide +kernel
theorem dX12_firstOf_34 : decode cX12_firstOf 34 = .ok (.iaload, 1) := by decide +kernel
theorem dX12_firstOf_35 : decode cX12_firstOf 35 = .ok (.iload_n 3, 1) := by decide +kernel
theorem dX12_firstOf_36 : decode cX12_firstOf 36 = .ok (.invokevirtual 168, 3) := by decide +kernel
theorem dX12_firstOf_39 : decode cX12_firstOf 39 = .ok (.ifCond .ne 5, 3) := by decide +kernel
theorem dX12_firstOf_42 : decode cX12_firstOf 42 = .ok (.iconst (-1), 1) := by decide +kernel
theorem dX12_firstOf_43 : decode cX12_firstOf 43 = .ok (.ireturn, 1) := by decide +kernel
theorem dX12_firstOf_44 : decode cX12_firstOf 44 = .ok (.iinc 4 1, 3) := by decide +kernel
theorem dX12_firstOf_47 : decode cX12_firstOf 47 = .ok (.goto (-44), 3) := by decide +kernel
theorem dX12_firstOf_50 : decode cX12_firstOf 50 = .ok (.iconst (-1), 1) := by decide +kernel
theorem dX12_firstOf_51 : decode cX12_firstOf 51 = .ok (.ireturn, 1) := by decide +kernel
theorem dX12_putAllOn_0 : decode cX12_putAllOn 0 = .ok (.iconst 0, 1) := by decide +kernel
theorem dX12_putAllOn_1 : decode cX12_putAllOn 1 = .ok (.istore_n 2, 1) := by decide +kernel
theorem dX12_putAllOn_2 : decode cX12_putAllOn 2 = .ok (.iload_n 2, 1) := by decide +kernel
theorem dX12_putAllOn_3 : decode cX12_putAllOn 3 = .ok (.iload_n 1, 1) := by decide +kernel
theorem dX12_putAllOn_4 : decode cX12_putAllOn 4 = .ok (.if_icmp .ge 16, 3) := by decide +kernel
theorem dX12_putAllOn_7 : decode cX12_putAllOn 7 = .ok (.aload_n 0, 1) := by decide +kernel
theorem dX12_putAllOn_8 : decode cX12_putAllOn 8 = .ok (.getfield 38, 3) := by decide +kernel
theorem dX12_putAllOn_11 : decode cX12_putAllOn 11 = .ok (.iload_n 2, 1) := by decide +kernel
theorem dX12_putAllOn_12 : decode cX12_putAllOn 12 = .ok (.iconst 0, 1) := by decide +kernel
theorem dX12_putAllOn_13 : decode cX12_putAllOn 13 = .ok (.bastore, 1) := by decide +kernel
theorem dX12_putAllOn_14 : decode cX12_putAllOn 14 = .ok (.iinc 2 1, 3) := by decide +kernel
theorem dX12_putAllOn_17 : decode cX12_putAllOn 17 = .ok (.goto (-15), 3) := by decide +kernel
theorem dX12_putAllOn_20 : decode cX12_putAllOn 20 = .ok (.return_, 1) := by decide +kernel
theorem dX12_makeLeast_0 : decode cX12_makeLeast 0 = .ok (.iconst 0, 1) := by decide +kernel
theorem dX12_makeLeast_1 : decode cX12_makeLeast 1 = .ok (.istore_n 3, 1) := by decide +kernel
theorem dX12_makeLeast_2 : decode cX12_makeLeast 2 = .ok (.iconst 1, 1) := by decide +kernel
theorem dX12_makeLeast_3 : decode cX12_makeLeast 3 = .ok (.istore 4, 2) := by decide +kernel
theorem dX12_makeLeast_5 : decode cX12_makeLeast 5 = .ok (.iload 4, 2) := by decide +kernel
theorem dX12_makeLeast_7 : decode cX12_makeLeast 7 = .ok (.ifCond .eq 68, 3) := by decide +kernel
theorem dX12_makeLeast_10 : decode cX12_makeLeast 10 = .ok (.iconst 0, 1) := by decide +kernel
theorem dX12_makeLeast_11 : decode cX12_makeLeast 11 = .ok (.istore 4, 2) := by decide +kernel
theorem dX12_makeLeast_13 : decode cX12_makeLeast 13 = .ok (.iconst 0, 1) := by decide +kernel
theorem dX12_makeLeast_14 : decode cX12_makeLeast 14 = .ok (.istore 5, 2) := by decide +kernel
theorem dX12_makeLeast_16 : decode cX12_makeLeast 16 = .ok (.iload 5, 2) := by decide +kernel
theorem dX12_makeLeast_18 : decode cX12_makeLeast 18 = .ok (.bipush 6, 2) := by decide +kernel
theorem dX12_makeLeast_20 : decode cX12_makeLeast 20 = .ok (.if_icmp .ge 52, 3) := by decide +kernel
theorem dX12_makeLeast_23 : decode cX12_makeLeast 23 = .ok (.iload 4, 2) := by decide +kernel
theorem dX12_makeLeast_25 : decode cX12_makeLeast 25 = .ok (.ifCond .ne 47, 3) := by decide +kernel
theorem dX12_makeLeast_28 : decode cX12_makeLeast 28 = .ok (.aload_n 0, 1) := by decide +kernel
theorem dX12_makeLeast_29 : decode cX12_makeLeast 29 = .ok (.aload_n 1, 1) := by decide +kernel
theorem dX12_makeLeast_30 : decode cX12_makeLeast 30 = .ok (.iload_n 2, 1) := by decide +kernel
theorem dX12_makeLeast_31 : decode cX12_makeLeast 31 = .ok (.iload 5, 2) := by decide +kernel
theorem dX12_makeLeast_33 : decode cX12_makeLeast 33 = .ok (.invokevirtual 175, 3) := by decide +kernel
theorem dX12_makeLeast_36 : decode cX12_makeLeast 36 = .ok (.istore 6, 2) := by decide +kernel
theorem dX12_makeLeast_38 : decode cX12_makeLeast 38 = .ok (.iload 6, 2) := by decide +kernel
theorem dX12_makeLeast_40 : decode cX12_makeLeast 40 = .ok (.iconst (-1), 1) := by decide +kernel
theorem dX12_makeLeast_41 : decode cX12_makeLeast 41 = .ok (.if_icmp .eq 25, 3) := by decide +kernel
theorem dX12_makeLeast_44 : decode cX12_makeLeast 44 = .ok (.aload_n 0, 1) := by decide +kernel
theorem dX12_makeLeast_45 : decode cX12_makeLeast 45 = .ok (.getfield 38, 3) := by decide +kernel
theorem dX12_makeLeast_48 : decode cX12_makeLeast 48 = .ok (.iload 6, 2) := by decide +kernel
theorem dX12_makeLeast_50 : decode cX12_makeLeast 50 = .ok (.iconst 1, 1) := by decide +kernel
theorem dX12_makeLeast_51 : decode cX12_makeLeast 51 = .ok (.bastore, 1) := by decide +kernel
theorem dX12_makeLeast_52 : decode cX12_makeLeast 52 = .ok (.aload_n 0, 1) := by decide +kernel
theorem dX12_makeLeast_53 : decode cX12_makeLeast 53 = .ok (.getfield 35, 3) := by decide +kernel
theorem dX12_makeLeast_56 : decode cX12_makeLeast 56 = .ok (.iload_n 3, 1) := by decide +kernel
theorem dX12_makeLeast_57 : decode cX12_makeLeast 57 = .ok (.iload 5, 2) := by decide +kernel
theorem dX12_makeLeast_59 : decode cX12_makeLeast 59 = .ok (.iastore, 1) := by decide +kernel
theorem dX12_makeLeast_60 : decode cX12_makeLeast 60 = .ok (.iinc 3 1, 3) := by decide +kernel
theorem dX12_makeLeast_63 : decode cX12_makeLeast 63 = .ok (.iconst 1, 1) := by decide +kernel
theorem dX12_makeLeast_64 : decode cX12_makeLeast 64 = .ok (.istore 4, 2) := by decide +kernel
theorem dX12_makeLeast_66 : decode cX12_makeLeast 66 = .ok (.iinc 5 1, 3) := by decide +kernel
theorem dX12_makeLeast_69 : decode cX12_makeLeast 69 = .ok (.goto (-53), 3) := by decide +kernel
theorem dX12_makeLeast_72 : decode cX12_makeLeast 72 = .ok (.goto (-67), 3) := by decide +kernel
theorem dX12_makeLeast_75 : decode cX12_makeLeast 75 = .ok (.iload_n 3, 1) := by decide +kernel
theorem dX12_makeLeast_76 : decode cX12_makeLeast 76 = .ok (.ireturn, 1) := by decide +kernel
theorem dX12_makeLeastOf_0 : decode cX12_makeLeastOf 0 = .ok (.aload_n 0, 1) := by decide +kernel
theorem dX12_makeLeastOf_1 : decode cX12_makeLeastOf 1 = .ok (.iload_n 2, 1) := by decide +kernel
theorem dX12_makeLeastOf_2 : decode cX12_makeLeastOf 2 = .ok (.invokevirtual 179, 3) := by decide +kernel
theorem dX12_makeLeastOf_5 : decode cX12_makeLeastOf 5 = .ok (.aload_n 0, 1) := by decide +kernel
theorem dX12_makeLeastOf_6 : decode cX12_makeLeastOf 6 = .ok (.aload_n 1, 1) := by decide +kernel
theorem dX12_makeLeastOf_7 : decode cX12_makeLeastOf 7 = .ok (.iload_n 2, 1) := by decide +kernel
theorem dX12_makeLeastOf_8 : decode cX12_makeLeastOf 8 = .ok (.invokevirtual 182, 3) := by decide +kernel
theorem dX12_makeLeastOf_11 : decode cX12_makeLeastOf 11 = .ok (.ireturn, 1) := by decide +kernel
theorem dX12_keep_0 : decode cX12_keep 0 = .ok (.aload_n 0, 1) := by decide +kernel
theorem dX12_keep_1 : decode cX12_keep 1 = .ok (.getfield 17, 3) := by decide +kernel
theorem dX12_keep_4 : decode cX12_keep 4 = .ok (.iload_n 1, 1) := by decide +kernel
theorem dX12_keep_5 : decode cX12_keep 5 = .ok (.iload_n 2, 1) := by decide +kernel
theorem dX12_keep_6 : decode cX12_keep 6 = .ok (.iastore, 1) := by decide +kernel
theorem dX12_keep_7 : decode cX12_keep 7 = .ok (.iconst 0, 1) := by decide +kernel
theorem dX12_keep_8 : decode cX12_keep 8 = .ok (.istore_n 3, 1) := by decide +kernel
theorem dX12_keep_9 : decode cX12_keep 9 = .ok (.iload_n 3, 1) := by decide +kernel
theorem dX12_keep_10 : decode cX12_keep 10 = .ok (.iload_n 2, 1) := by decide +kernel
theorem dX12_keep_11 : decode cX12_keep 11 = .ok (.if_icmp .ge 26, 3) := by decide +kernel
theorem dX12_keep_14 : decode cX12_keep 14 = .ok (.aload_n 0, 1) := by decide +kernel
theorem dX12_keep_15 : decode cX12_keep 15 = .ok (.getfield 20, 3) := by decide +kernel
theorem dX12_keep_18 : decode cX12_keep 18 = .ok (.bipush 24, 2) := by decide +kernel
theorem dX12_keep_20 : decode cX12_keep 20 = .ok (.iload_n 1, 1) := by decide +kernel
theorem dX12_keep_21 : decode cX12_keep 21 = .ok (.imul, 1) := by decide +kernel
theorem dX12_keep_22 : decode cX12_keep 22 = .ok (.iload_n 3, 1) := by decide +kernel
theorem dX12_keep_23 : decode cX12_keep 23 = .ok (.iadd, 1) := by decide +kernel
theorem dX12_keep_24 : decode cX12_keep 24 = .ok (.aload_n 0, 1) := by decide +kernel
theorem dX12_keep_25 : decode cX12_keep 25 = .ok (.getfield 35, 3) := by decide +kernel
theorem dX12_keep_28 : decode cX12_keep 28 = .ok (.iload_n 3, 1) := by decide +kernel
theorem dX12_keep_29 : decode cX12_keep 29 = .ok (.iaload, 1) := by decide +kernel
theorem dX12_keep_30 : decode cX12_keep 30 = .ok (.iastore, 1) := by decide +kernel
theorem dX12_keep_31 : decode cX12_keep 31 = .ok (.iinc 3 1, 3) := by decide +kernel
theorem dX12_keep_34 : decode cX12_keep 34 = .ok (.goto (-25), 3) := by decide +kernel
theorem dX12_keep_37 : decode cX12_keep 37 = .ok (.iload_n 2, 1) := by decide +kernel
theorem dX12_keep_38 : decode cX12_keep 38 = .ok (.ireturn, 1) := by decide +kernel
theorem dX12_letter_0 : decode cX12_letter 0 = .ok (.iload_n 1, 1) := by decide +kernel
theorem dX12_letter_1 : decode cX12_letter 1 = .ok (.invokestatic 172, 3) := by decide +kernel
theorem dX12_letter_4 : decode cX12_letter 4 = .ok (.ifCond .ne 6, 3) := by decide +kernel
theorem dX12_letter_7 : decode cX12_letter 7 = .ok (.bipush (-2), 2) := by decide +kernel
theorem dX12_letter_9 : decode cX12_letter 9 = .ok (.ireturn, 1) := by decide +kernel
theorem dX12_letter_10 : decode cX12_letter 10 = .ok (.iload_n 2, 1) := by decide +kernel
theorem dX12_letter_11 : decode cX12_letter 11 = .ok (.ifCond .lt 12, 3) := by decide +kernel
theorem dX12_letter_14 : decode cX12_letter 14 = .ok (.iload_n 3, 1) := by decide +kernel
theorem dX12_letter_15 : decode cX12_letter 15 = .ok (.iconst 0, 1) := by decide +kernel
theorem dX12_letter_16 : decode cX12_letter 16 = .ok (.iconst 1, 1) := by decide +kernel
theorem dX12_letter_17 : decode cX12_letter 17 = .ok (.invokestatic 83, 3) := by decide +kernel
theorem dX12_letter_20 : decode cX12_letter 20 = .ok (.ifCond .ne 6, 3) := by decide +kernel
theorem dX12_letter_23 : decode cX12_letter 23 = .ok (.bipush (-3), 2) := by decide +kernel
theorem dX12_letter_25 : decode cX12_letter 25 = .ok (.ireturn, 1) := by decide +kernel
theorem dX12_letter_26 : decode cX12_letter 26 = .ok (.iload_n 2, 1) := by decide +kernel
theorem dX12_letter_27 : decode cX12_letter 27 = .ok (.aload_n 0, 1) := by decide +kernel
theorem dX12_letter_28 : decode cX12_letter 28 = .ok (.getfield 17, 3) := by decide +kernel
theorem dX12_letter_31 : decode cX12_letter 31 = .ok (.iload_n 1, 1) := by decide +kernel
theorem dX12_letter_32 : decode cX12_letter 32 = .ok (.iaload, 1) := by decide +kernel
theorem dX12_letter_33 : decode cX12_letter 33 = .ok (.if_icmp .lt 5, 3) := by decide +kernel
theorem dX12_letter_36 : decode cX12_letter 36 = .ok (.iconst (-1), 1) := by decide +kernel
theorem dX12_letter_37 : decode cX12_letter 37 = .ok (.ireturn, 1) := by decide +kernel
theorem dX12_letter_38 : decode cX12_letter 38 = .ok (.iload_n 3, 1) := by decide +kernel
theorem dX12_letter_39 : decode cX12_letter 39 = .ok (.ifCond .ne 15, 3) := by decide +kernel
theorem dX12_letter_42 : decode cX12_letter 42 = .ok (.aload_n 0, 1) := by decide +kernel
theorem dX12_letter_43 : decode cX12_letter 43 = .ok (.getfield 20, 3) := by decide +kernel
theorem dX12_letter_46 : decode cX12_letter 46 = .ok (.bipush 24, 2) := by decide +kernel
theorem dX12_letter_48 : decode cX12_letter 48 = .ok (.iload_n 1, 1) := by decide +kernel
theorem dX12_letter_49 : decode cX12_letter 49 = .ok (.imul, 1) := by decide +kernel
theorem dX12_letter_50 : decode cX12_letter 50 = .ok (.iload_n 2, 1) := by decide +kernel
theorem dX12_letter_51 : decode cX12_letter 51 = .ok (.iadd, 1) := by decide +kernel
theorem dX12_letter_52 : decode cX12_letter 52 = .ok (.iaload, 1) := by decide +kernel
theorem dX12_letter_53 : decode cX12_letter 53 = .ok (.ireturn, 1) := by decide +kernel
theorem dX12_letter_54 : decode cX12_letter 54 = .ok (.aload_n 0, 1) := by decide +kernel
theorem dX12_letter_55 : decode cX12_letter 55 = .ok (.iload_n 1, 1) := by decide +kernel
theorem dX12_letter_56 : decode cX12_letter 56 = .ok (.aload_n 0, 1) := by decide +kernel
theorem dX12_letter_57 : decode cX12_letter 57 = .ok (.getfield 29, 3) := by decide +kernel
theorem dX12_letter_60 : decode cX12_letter 60 = .ok (.invokevirtual 186, 3) := by decide +kernel
theorem dX12_letter_63 : decode cX12_letter 63 = .ok (.aload_n 0, 1) := by decide +kernel
theorem dX12_letter_64 : decode cX12_letter 64 = .ok (.aload_n 0, 1) := by decide +kernel
theorem dX12_letter_65 : decode cX12_letter 65 = .ok (.getfield 29, 3) := by decide +kernel
theorem dX12_letter_68 : decode cX12_letter 68 = .ok (.aload_n 0, 1) := by decide +kernel
theorem dX12_letter_69 : decode cX12_letter 69 = .ok (.getfield 17, 3) := by decide +kernel
theorem dX12_letter_72 : decode cX12_letter 72 = .ok (.iload_n 1, 1) := by decide +kernel
theorem dX12_letter_73 : decode cX12_letter 73 = .ok (.iaload, 1) := by decide +kernel
theorem dX12_letter_74 : decode cX12_letter 74 = .ok (.invokevirtual 190, 3) := by decide +kernel
theorem dX12_letter_77 : decode cX12_letter 77 = .ok (.pop, 1) := by decide +kernel
theorem dX12_letter_78 : decode cX12_letter 78 = .ok (.aload_n 0, 1) := by decide +kernel
theorem dX12_letter_79 : decode cX12_letter 79 = .ok (.getfield 35, 3) := by decide +kernel
theorem dX12_letter_82 : decode cX12_letter 82 = .ok (.iload_n 2, 1) := by decide +kernel
theorem dX12_letter_83 : decode cX12_letter 83 = .ok (.iaload, 1) := by decide +kernel
theorem dX12_letter_84 : decode cX12_letter 84 = .ok (.ireturn, 1) := by decide +kernel
theorem dX12_areLooksAlike_0 : decode cX12_areLooksAlike 0 = .ok (.iconst 0, 1) := by decide +kernel
theorem dX12_areLooksAlike_1 : decode cX12_areLooksAlike 1 = .ok (.istore 5, 2) := by decide +kernel
theorem dX12_areLooksAlike_3 : decode cX12_areLooksAlike 3 = .ok (.iconst 0, 1) := by decide +kernel
theorem dX12_areLooksAlike_4 : decode cX12_areLooksAlike 4 = .ok (.istore 6, 2) := by decide +kernel
theorem dX12_areLooksAlike_6 : decode cX12_areLooksAlike 6 = .ok (.iload 5, 2) := by decide +kernel
theorem dX12_areLooksAlike_8 : decode cX12_areLooksAlike 8 = .ok (.aload_n 0, 1) := by decide +kernel
theorem dX12_areLooksAlike_9 : decode cX12_areLooksAlike 9 = .ok (.getfield 17, 3) := by decide +kernel
theorem dX12_areLooksAlike_12 : decode cX12_areLooksAlike 12 = .ok (.iload_n 1, 1) := by decide +kernel
theorem dX12_areLooksAlike_13 : decode cX12_areLooksAlike 13 = .ok (.iaload, 1) := by decide +kernel
theorem dX12_areLooksAlike_14 : decode cX12_areLooksAlike 14 = .ok (.if_icmp .lt 14, 3) := by decide +kernel
theorem dX12_areLooksAlike_17 : decode cX12_areLooksAlike 17 = .ok (.iload 6, 2) := by decide +kernel
theorem dX12_areLooksAlike_19 : decode cX12_areLooksAlike 19 = .ok (.aload_n 0, 1) := by decide +kernel
theorem dX12_areLooksAlike_20 : decode cX12_areLooksAlike 20 = .ok (.getfield 17, 3) := by decide +kernel
theorem dX12_areLooksAlike_23 : decode cX12_areLooksAlike 23 = .ok (.iload_n 2, 1) := by decide +kernel
theorem dX12_areLooksAlike_24 : decode cX12_areLooksAlike 24 = .ok (.iaload, 1) := by decide +kernel
theorem dX12_areLooksAlike_25 : decode cX12_areLooksAlike 25 = .ok (.if_icmp .ge 179, 3) := by decide +kernel
theorem dX12_areLooksAlike_28 : decode cX12_areLooksAlike 28 = .ok (.iload 5, 2) := by decide +kernel
theorem dX12_areLooksAlike_30 : decode cX12_areLooksAlike 30 = .ok (.aload_n 0, 1) := by decide +kernel
theorem dX12_areLooksAlike_31 : decode cX12_areLooksAlike 31 = .ok (.getfield 17, 3) := by decide +kernel
theorem dX12_areLooksAlike_34 : decode cX12_areLooksAlike 34 = .ok (.iload_n 1, 1) := by decide +kernel
theorem dX12_areLooksAlike_35 : decode cX12_areLooksAlike 35 = .ok (.iaload, 1) := by decide +kernel
theorem dX12_areLooksAlike_36 : decode cX12_areLooksAlike 36 = .ok (.if_icmp .ge 42, 3) := by decide +kernel
theorem dX12_areLooksAlike_39 : decode cX12_areLooksAlike 39 = .ok (.aload_n 0, 1) := by decide +kernel
theorem dX12_areLooksAlike_40 : decode cX12_areLooksAlike 40 = .ok (.getfield 20, 3) := by decide +kernel
theorem dX12_areLooksAlike_43 : decode cX12_areLooksAlike 43 = .ok (.bipush 24, 2) := by decide +kernel
theorem dX12_areLooksAlike_45 : decode cX12_areLooksAlike 45 = .ok (.iload_n 1, 1) := by decide +kernel
theorem dX12_areLooksAlike_46 : decode cX12_areLooksAlike 46 = .ok (.imul, 1) := by decide +kernel
theorem dX12_areLooksAlike_47 : decode cX12_areLooksAlike 47 = .ok (.iload 5, 2) := by decide +kernel
theorem dX12_areLooksAlike_49 : decode cX12_areLooksAlike 49 = .ok (.iadd, 1) := by decide +kernel
theorem dX12_areLooksAlike_50 : decode cX12_areLooksAlike 50 = .ok (.iaload, 1) := by decide +kernel
theorem dX12_areLooksAlike_51 : decode cX12_areLooksAlike 51 = .ok (.iload_n 3, 1) := by decide +kernel
theorem dX12_areLooksAlike_52 : decode cX12_areLooksAlike 52 = .ok (.if_icmp .eq 26, 3) := by decide +kernel
theorem dX12_areLooksAlike_55 : decode cX12_areLooksAlike 55 = .ok (.aload_n 0, 1) := by decide +kernel
theorem dX12_areLooksAlike_56 : decode cX12_areLooksAlike 56 = .ok (.getfield 20, 3) := by decide +kernel
theorem dX12_areLooksAlike_59 : decode cX12_areLooksAlike 59 = .ok (.bipush 24, 2) := by decide +kernel
theorem dX12_areLooksAlike_61 : decode cX12_areLooksAlike 61 = .ok (.iload_n 1, 1) := by decide +kernel
theorem dX12_areLooksAlike_62 : decode cX12_areLooksAlike 62 = .ok (.imul, 1) := by decide +kernel
theorem dX12_areLooksAlike_63 : decode cX12_areLooksAlike 63 = .ok (.iload 5, 2) := by decide +kernel
theorem dX12_areLooksAlike_65 : decode cX12_areLooksAlike 65 = .ok (.iadd, 1) := by decide +kernel
theorem dX12_areLooksAlike_66 : decode cX12_areLooksAlike 66 = .ok (.iaload, 1) := by decide +kernel
theorem dX12_areLooksAlike_67 : decode cX12_areLooksAlike 67 = .ok (.iload 4, 2) := by decide +kernel
theorem dX12_areLooksAlike_69 : decode cX12_areLooksAlike 69 = .ok (.if_icmp .eq 9, 3) := by decide +kernel
theorem dX12_areLooksAlike_72 : decode cX12_areLooksAlike 72 = .ok (.iinc 5 1, 3) := by decide +kernel
theorem dX12_areLooksAlike_75 : decode cX12_areLooksAlike 75 = .ok (.goto (-47), 3) := by decide +kernel
theorem dX12_areLooksAlike_78 : decode cX12_areLooksAlike 78 = .ok (.iload 6, 2) := by decide +kernel
theorem dX12_areLooksAlike_80 : decode cX12_areLooksAlike 80 = .ok (.aload_n 0, 1) := by decide +kernel
theorem dX12_areLooksAlike_81 : decode cX12_areLooksAlike 81 = .ok (.getfield 17, 3) := by decide +kernel
theorem dX12_areLooksAlike_84 : decode cX12_areLooksAlike 84 = .ok (.iload_n 2, 1) := by decide +kernel
theorem dX12_areLooksAlike_85 : decode cX12_areLooksAlike 85 = .ok (.iaload, 1) := by decide +kernel
theorem dX12_areLooksAlike_86 : decode cX12_areLooksAlike 86 = .ok (.if_icmp .ge 42, 3) := by decide +kernel
theorem dX12_areLooksAlike_89 : decode cX12_areLooksAlike 89 = .ok (.aload_n 0, 1) := by decide +kernel
theorem dX12_areLooksAlike_90 : decode cX12_areLooksAlike 90 = .ok (.getfield 20, 3) := by decide +kernel
theorem dX12_areLooksAlike_93 : decode cX12_areLooksAlike 93 = .ok (.bipush 24, 2) := by decide +kernel
theorem dX12_areLooksAlike_95 : decode cX12_areLooksAlike 95 = .ok (.iload_n 2, 1) := by decide +kernel
theorem dX12_areLooksAlike_96 : decode cX12_areLooksAlike 96 = .ok (.imul, 1) := by decide +kernel
theorem dX12_areLooksAlike_97 : decode cX12_areLooksAlike 97 = .ok (.iload 6, 2) := by decide +kernel
theorem dX12_areLooksAlike_99 : decode cX12_areLooksAlike 99 = .ok (.iadd, 1) := by decide +kernel
theorem dX12_areLooksAlike_100 : decode cX12_areLooksAlike 100 = .ok (.iaload, 1) := by decide +kernel
theorem dX12_areLooksAlike_101 : decode cX12_areLooksAlike 101 = .ok (.iload_n 3, 1) := by decide +kernel
theorem dX12_areLooksAlike_102 : decode cX12_areLooksAlike 102 = .ok (.if_icmp .eq 26, 3) := by decide +kernel
theorem dX12_areLooksAlike_105 : decode cX12_areLooksAlike 105 = .ok (.aload_n 0, 1) := by decide +kernel
theorem dX12_areLooksAlike_106 : decode cX12_areLooksAlike 106 = .ok (.getfield 20, 3) := by decide +kernel
theorem dX12_areLooksAlike_109 : decode cX12_areLooksAlike 109 = .ok (.bipush 24, 2) := by decide +kernel
theorem dX12_areLooksAlike_111 : decode cX12_areLooksAlike 111 = .ok (.iload_n 2, 1) := by decide +kernel
theorem dX12_areLooksAlike_112 : decode cX12_areLooksAlike 112 = .ok (.imul, 1) := by decide +kernel
theorem dX12_areLooksAlike_113 : decode cX12_areLooksAlike 113 = .ok (.iload 6, 2) := by decide +kernel
theorem dX12_areLooksAlike_115 : decode cX12_areLooksAlike 115 = .ok (.iadd, 1) := by decide +kernel
theorem dX12_areLooksAlike_116 : decode cX12_areLooksAlike 116 = .ok (.iaload, 1) := by decide +kernel
theorem dX12_areLooksAlike_117 : decode cX12_areLooksAlike 117 = .ok (.iload 4, 2) := by decide +kernel
theorem dX12_areLooksAlike_119 : decode cX12_areLooksAlike 119 = .ok (.if_icmp .eq 9, 3) := by decide +kernel
theorem dX12_areLooksAlike_122 : decode cX12_areLooksAlike 122 = .ok (.iinc 6 1, 3) := by decide +kernel
theorem dX12_areLooksAlike_125 : decode cX12_areLooksAlike 125 = .ok (.goto (-47), 3) := by decide +kernel
theorem dX12_areLooksAlike_128 : decode cX12_areLooksAlike 128 = .ok (.iload 5, 2) := by decide +kernel
theorem dX12_areLooksAlike_130 : decode cX12_areLooksAlike 130 = .ok (.aload_n 0, 1) := by decide +kernel
theorem dX12_areLooksAlike_131 : decode cX12_areLooksAlike 131 = .ok (.getfield 17, 3) := by decide +kernel
theorem dX12_areLooksAlike_134 : decode cX12_areLooksAlike 134 = .ok (.iload_n 1, 1) := by decide +kernel
theorem dX12_areLooksAlike_135 : decode cX12_areLooksAlike 135 = .ok (.iaload, 1) := by decide +kernel
theorem dX12_areLooksAlike_136 : decode cX12_areLooksAlike 136 = .ok (.if_icmp .ge 18, 3) := by decide +kernel
theorem dX12_areLooksAlike_139 : decode cX12_areLooksAlike 139 = .ok (.aload_n 0, 1) := by decide +kernel
theorem dX12_areLooksAlike_140 : decode cX12_areLooksAlike 140 = .ok (.getfield 20, 3) := by decide +kernel
theorem dX12_areLooksAlike_143 : decode cX12_areLooksAlike 143 = .ok (.bipush 24, 2) := by decide +kernel
theorem dX12_areLooksAlike_145 : decode cX12_areLooksAlike 145 = .ok (.iload_n 1, 1) := by decide +kernel
theorem dX12_areLooksAlike_146 : decode cX12_areLooksAlike 146 = .ok (.imul, 1) := by decide +kernel
theorem dX12_areLooksAlike_147 : decode cX12_areLooksAlike 147 = .ok (.iload 5, 2) := by decide +kernel
theorem dX12_areLooksAlike_149 : decode cX12_areLooksAlike 149 = .ok (.iadd, 1) := by decide +kernel
theorem dX12_areLooksAlike_150 : decode cX12_areLooksAlike 150 = .ok (.iaload, 1) := by decide +kernel
theorem dX12_areLooksAlike_151 : decode cX12_areLooksAlike 151 = .ok (.goto 4, 3) := by decide +kernel
theorem dX12_areLooksAlike_154 : decode cX12_areLooksAlike 154 = .ok (.iconst (-1), 1) := by decide +kernel
theorem dX12_areLooksAlike_155 : decode cX12_areLooksAlike 155 = .ok (.istore 7, 2) := by decide +kernel
theorem dX12_areLooksAlike_157 : decode cX12_areLooksAlike 157 = .ok (.iload 6, 2) := by decide +kernel
theorem dX12_areLooksAlike_159 : decode cX12_areLooksAlike 159 = .ok (.aload_n 0, 1) := by decide +kernel
theorem dX12_areLooksAlike_160 : decode cX12_areLooksAlike 160 = .ok (.getfield 17, 3) := by decide +kernel
theorem dX12_areLooksAlike_163 : decode cX12_areLooksAlike 163 = .ok (.iload_n 2, 1) := by decide +kernel
theorem dX12_areLooksAlike_164 : decode cX12_areLooksAlike 164 = .ok (.iaload, 1) := by decide +kernel
theorem dX12_areLooksAlike_165 : decode cX12_areLooksAlike 165 = .ok (.if_icmp .ge 18, 3) := by decide +kernel
theorem dX12_areLooksAlike_168 : decode cX12_areLooksAlike 168 = .ok (.aload_n 0, 1) := by decide +kernel
theorem dX12_areLooksAlike_169 : decode cX12_areLooksAlike 169 = .ok (.getfield 20, 3) := by decide +kernel
theorem dX12_areLooksAlike_172 : decode cX12_areLooksAlike 172 = .ok (.bipush 24, 2) := by decide +kernel
theorem dX12_areLooksAlike_174 : decode cX12_areLooksAlike 174 = .ok (.iload_n 2, 1) := by decide +kernel
theorem dX12_areLooksAlike_175 : decode cX12_areLooksAlike 175 = .ok (.imul, 1) := by decide +kernel
theorem dX12_areLooksAlike_176 : decode cX12_areLooksAlike 176 = .ok (.iload 6, 2) := by decide +kernel
theorem dX12_areLooksAlike_178 : decode cX12_areLooksAlike 178 = .ok (.iadd, 1) := by decide +kernel
theorem dX12_areLooksAlike_179 : decode cX12_areLooksAlike 179 = .ok (.iaload, 1) := by decide +kernel
theorem dX12_areLooksAlike_180 : decode cX12_areLooksAlike 180 = .ok (.goto 4, 3) := by decide +kernel
theorem dX12_areLooksAlike_183 : decode cX12_areLooksAlike 183 = .ok (.iconst (-1), 1) := by decide +kernel
theorem dX12_areLooksAlike_184 : decode cX12_areLooksAlike 184 = .ok (.istore 8, 2) := by decide +kernel
theorem dX12_areLooksAlike_186 : decode cX12_areLooksAlike 186 = .ok (.iload 7, 2) := by decide +kernel
theorem dX12_areLooksAlike_188 : decode cX12_areLooksAlike 188 = .ok (.iload 8, 2) := by decide +kernel
theorem dX12_areLooksAlike_190 : decode cX12_areLooksAlike 190 = .ok (.if_icmp .eq 5, 3) := by decide +kernel
theorem dX12_areLooksAlike_193 : decode cX12_areLooksAlike 193 = .ok (.iconst 0, 1) := by decide +kernel
theorem dX12_areLooksAlike_194 : decode cX12_areLooksAlike 194 = .ok (.ireturn, 1) := by decide +kernel
theorem dX12_areLooksAlike_195 : decode cX12_areLooksAlike 195 = .ok (.iinc 5 1, 3) := by decide +kernel
theorem dX12_areLooksAlike_198 : decode cX12_areLooksAlike 198 = .ok (.iinc 6 1, 3) := by decide +kernel
theorem dX12_areLooksAlike_201 : decode cX12_areLooksAlike 201 = .ok (.goto (-195), 3) := by decide +kernel
theorem dX12_areLooksAlike_204 : decode cX12_areLooksAlike 204 = .ok (.iconst 1, 1) := by decide +kernel
theorem dX12_areLooksAlike_205 : decode cX12_areLooksAlike 205 = .ok (.ireturn, 1) := by decide +kernel
theorem dX12_apartOf_0 : decode cX12_apartOf 0 = .ok (.iconst 0, 1) := by decide +kernel
theorem dX12_apartOf_1 : decode cX12_apartOf 1 = .ok (.istore_n 3, 1) := by decide +kernel
theorem dX12_apartOf_2 : decode cX12_apartOf 2 = .ok (.iload_n 3, 1) := by decide +kernel
theorem dX12_apartOf_3 : decode cX12_apartOf 3 = .ok (.aload_n 0, 1) := by decide +kernel
theorem dX12_apartOf_4 : decode cX12_apartOf 4 = .ok (.getfield 7, 3) := by decide +kernel
theorem dX12_apartOf_7 : decode cX12_apartOf 7 = .ok (.if_icmp .ge 57, 3) := by decide +kernel
theorem dX12_apartOf_10 : decode cX12_apartOf 10 = .ok (.iload_n 3, 1) := by decide +kernel
theorem dX12_apartOf_11 : decode cX12_apartOf 11 = .ok (.istore 4, 2) := by decide +kernel
theorem dX12_apartOf_13 : decode cX12_apartOf 13 = .ok (.iload 4, 2) := by decide +kernel
theorem dX12_apartOf_15 : decode cX12_apartOf 15 = .ok (.aload_n 0, 1) := by decide +kernel
theorem dX12_apartOf_16 : decode cX12_apartOf 16 = .ok (.getfield 7, 3) := by decide +kernel
theorem dX12_apartOf_19 : decode cX12_apartOf 19 = .ok (.if_icmp .ge 39, 3) := by decide +kernel
theorem dX12_apartOf_22 : decode cX12_apartOf 22 = .ok (.aload_n 0, 1) := by decide +kernel
theorem dX12_apartOf_23 : decode cX12_apartOf 23 = .ok (.iload_n 3, 1) := by decide +kernel
theorem dX12_apartOf_24 : decode cX12_apartOf 24 = .ok (.iload 4, 2) := by decide +kernel
theorem dX12_apartOf_26 : decode cX12_apartOf 26 = .ok (.invokevirtual 168, 3) := by decide +kernel
theorem dX12_apartOf_29 : decode cX12_apartOf 29 = .ok (.ifCond .ne 23, 3) := by decide +kernel
theorem dX12_apartOf_32 : decode cX12_apartOf 32 = .ok (.aload_n 0, 1) := by decide +kernel
theorem dX12_apartOf_33 : decode cX12_apartOf 33 = .ok (.iload_n 1, 1) := by decide +kernel
theorem dX12_apartOf_34 : decode cX12_apartOf 34 = .ok (.iload_n 2, 1) := by decide +kernel
theorem dX12_apartOf_35 : decode cX12_apartOf 35 = .ok (.iload_n 3, 1) := by decide +kernel
theorem dX12_apartOf_36 : decode cX12_apartOf 36 = .ok (.iload 4, 2) := by decide +kernel
theorem dX12_apartOf_38 : decode cX12_apartOf 38 = .ok (.invokevirtual 193, 3) := by decide +kernel
theorem dX12_apartOf_41 : decode cX12_apartOf 41 = .ok (.ifCond .ne 11, 3) := by decide +kernel
theorem dX12_apartOf_44 : decode cX12_apartOf 44 = .ok (.bipush 8, 2) := by decide +kernel
theorem dX12_apartOf_46 : decode cX12_apartOf 46 = .ok (.iload_n 3, 1) := by decide +kernel
theorem dX12_apartOf_47 : decode cX12_apartOf 47 = .ok (.imul, 1) := by decide +kernel
theorem dX12_apartOf_48 : decode cX12_apartOf 48 = .ok (.iload 4, 2) := by decide +kernel
theorem dX12_apartOf_50 : decode cX12_apartOf 50 = .ok (.iadd, 1) := by decide +kernel
theorem dX12_apartOf_51 : decode cX12_apartOf 51 = .ok (.ireturn, 1) := by decide +kernel
theorem dX12_apartOf_52 : decode cX12_apartOf 52 = .ok (.iinc 4 1, 3) := by decide +kernel
theorem dX12_apartOf_55 : decode cX12_apartOf 55 = .ok (.goto (-42), 3) := by decide +kernel
theorem dX12_apartOf_58 : decode cX12_apartOf 58 = .ok (.iinc 3 1, 3) := by decide +kernel
theorem dX12_apartOf_61 : decode cX12_apartOf 61 = .ok (.goto (-59), 3) := by decide +kernel
theorem dX12_apartOf_64 : decode cX12_apartOf 64 = .ok (.iconst (-1), 1) := by decide +kernel
theorem dX12_apartOf_65 : decode cX12_apartOf 65 = .ok (.ireturn, 1) := by decide +kernel
theorem dX12_same_0 : decode cX12_same 0 = .ok (.iload_n 1, 1) := by decide +kernel
theorem dX12_same_1 : decode cX12_same 1 = .ok (.invokestatic 172, 3) := by decide +kernel
theorem dX12_same_4 : decode cX12_same 4 = .ok (.ifCond .eq 10, 3) := by decide +kernel
theorem dX12_same_7 : decode cX12_same 7 = .ok (.iload_n 2, 1) := by decide +kernel
theorem dX12_same_8 : decode cX12_same 8 = .ok (.invokestatic 172, 3) := by decide +kernel
theorem dX12_same_11 : decode cX12_same 11 = .ok (.ifCond .ne 6, 3) := by decide +kernel
theorem dX12_same_14 : decode cX12_same 14 = .ok (.bipush (-2), 2) := by decide +kernel
theorem dX12_same_16 : decode cX12_same 16 = .ok (.ireturn, 1) := by decide +kernel
theorem dX12_same_17 : decode cX12_same 17 = .ok (.aload_n 0, 1) := by decide +kernel
theorem dX12_same_18 : decode cX12_same 18 = .ok (.iload_n 1, 1) := by decide +kernel
theorem dX12_same_19 : decode cX12_same 19 = .ok (.iload_n 2, 1) := by decide +kernel
theorem dX12_same_20 : decode cX12_same 20 = .ok (.invokevirtual 197, 3) := by decide +kernel
theorem dX12_same_23 : decode cX12_same 23 = .ok (.iconst (-1), 1) := by decide +kernel
theorem dX12_same_24 : decode cX12_same 24 = .ok (.if_icmp .ne 7, 3) := by decide +kernel
theorem dX12_same_27 : decode cX12_same 27 = .ok (.iconst 1, 1) := by decide +kernel
theorem dX12_same_28 : decode cX12_same 28 = .ok (.goto 4, 3) := by decide +kernel
theorem dX12_same_31 : decode cX12_same 31 = .ok (.iconst 0, 1) := by decide +kernel
theorem dX12_same_32 : decode cX12_same 32 = .ok (.ireturn, 1) := by decide +kernel
theorem dX12_apart_0 : decode cX12_apart 0 = .ok (.iload_n 1, 1) := by decide +kernel
theorem dX12_apart_1 : decode cX12_apart 1 = .ok (.invokestatic 172, 3) := by decide +kernel
theorem dX12_apart_4 : decode cX12_apart 4 = .ok (.ifCond .eq 19, 3) := by decide +kernel
theorem dX12_apart_7 : decode cX12_apart 7 = .ok (.iload_n 2, 1) := by decide +kernel
theorem dX12_apart_8 : decode cX12_apart 8 = .ok (.invokestatic 172, 3) := by decide +kernel
theorem dX12_apart_11 : decode cX12_apart 11 = .ok (.ifCond .eq 12, 3) := by decide +kernel
theorem dX12_apart_14 : decode cX12_apart 14 = .ok (.aload_n 0, 1) := by decide +kernel
theorem dX12_apart_15 : decode cX12_apart 15 = .ok (.iload_n 1, 1) := by decide +kernel
theorem dX12_apart_16 : decode cX12_apart 16 = .ok (.iload_n 2, 1) := by decide +kernel
theorem dX12_apart_17 : decode cX12_apart 17 = .ok (.invokevirtual 197, 3) := by decide +kernel
theorem dX12_apart_20 : decode cX12_apart 20 = .ok (.goto 5, 3) := by decide +kernel
theorem dX12_apart_23 : decode cX12_apart 23 = .ok (.bipush (-2), 2) := by decide +kernel
theorem dX12_apart_25 : decode cX12_apart 25 = .ok (.ireturn, 1) := by decide +kernel
theorem dX12_layer_0 : decode cX12_layer 0 = .ok (.iload_n 1, 1) := by decide +kernel
theorem dX12_layer_1 : decode cX12_layer 1 = .ok (.invokestatic 172, 3) := by decide +kernel
theorem dX12_layer_4 : decode cX12_layer 4 = .ok (.ifCond .ne 6, 3) := by decide +kernel
theorem dX12_layer_7 : decode cX12_layer 7 = .ok (.bipush (-2), 2) := by decide +kernel
theorem dX12_layer_9 : decode cX12_layer 9 = .ok (.ireturn, 1) := by decide +kernel
theorem dX12_layer_10 : decode cX12_layer 10 = .ok (.iload_n 2, 1) := by decide +kernel
theorem dX12_layer_11 : decode cX12_layer 11 = .ok (.iconst (-1), 1) := by decide +kernel
theorem dX12_layer_12 : decode cX12_layer 12 = .ok (.if_icmp .ge 6, 3) := by decide +kernel
theorem dX12_layer_15 : decode cX12_layer 15 = .ok (.bipush (-3), 2) := by decide +kernel
theorem dX12_layer_17 : decode cX12_layer 17 = .ok (.ireturn, 1) := by decide +kernel
theorem dX12_layer_18 : decode cX12_layer 18 = .ok (.aload_n 0, 1) := by decide +kernel
theorem dX12_layer_19 : decode cX12_layer 19 = .ok (.iload_n 1, 1) := by decide +kernel
theorem dX12_layer_20 : decode cX12_layer 20 = .ok (.aload_n 0, 1) := by decide +kernel
theorem dX12_layer_21 : decode cX12_layer 21 = .ok (.getfield 29, 3) := by decide +kernel
theorem dX12_layer_24 : decode cX12_layer 24 = .ok (.invokevirtual 186, 3) := by decide +kernel
theorem dX12_layer_27 : decode cX12_layer 27 = .ok (.aload_n 0, 1) := by decide +kernel
theorem dX12_layer_28 : decode cX12_layer 28 = .ok (.aload_n 0, 1) := by decide +kernel
theorem dX12_layer_29 : decode cX12_layer 29 = .ok (.getfield 17, 3) := by decide +kernel
theorem dX12_layer_32 : decode cX12_layer 32 = .ok (.iload_n 1, 1) := by decide +kernel
theorem dX12_layer_33 : decode cX12_layer 33 = .ok (.iaload, 1) := by decide +kernel
theorem dX12_layer_34 : decode cX12_layer 34 = .ok (.invokevirtual 179, 3) := by decide +kernel
theorem dX12_layer_37 : decode cX12_layer 37 = .ok (.aload_n 0, 1) := by decide +kernel
theorem dX12_layer_38 : decode cX12_layer 38 = .ok (.getfield 17, 3) := by decide +kernel
theorem dX12_layer_41 : decode cX12_layer 41 = .ok (.iload_n 1, 1) := by decide +kernel
theorem dX12_layer_42 : decode cX12_layer 42 = .ok (.iaload, 1) := by decide +kernel
theorem dX12_layer_43 : decode cX12_layer 43 = .ok (.istore_n 3, 1) := by decide +kernel
theorem dX12_layer_44 : decode cX12_layer 44 = .ok (.iconst 0, 1) := by decide +kernel
theorem dX12_layer_45 : decode cX12_layer 45 = .ok (.istore 4, 2) := by decide +kernel
theorem dX12_layer_47 : decode cX12_layer 47 = .ok (.iload_n 3, 1) := by decide +kernel
theorem dX12_layer_48 : decode cX12_layer 48 = .ok (.ifCond .le 122, 3) := by decide +kernel
theorem dX12_layer_51 : decode cX12_layer 51 = .ok (.iconst 0, 1) := by decide +kernel
theorem dX12_layer_52 : decode cX12_layer 52 = .ok (.istore 5, 2) := by decide +kernel
theorem dX12_layer_54 : decode cX12_layer 54 = .ok (.iconst 0, 1) := by decide +kernel
theorem dX12_layer_55 : decode cX12_layer 55 = .ok (.istore 6, 2) := by decide +kernel
theorem dX12_layer_57 : decode cX12_layer 57 = .ok (.iload 6, 2) := by decide +kernel
theorem dX12_layer_59 : decode cX12_layer 59 = .ok (.bipush 6, 2) := by decide +kernel
theorem dX12_layer_61 : decode cX12_layer 61 = .ok (.if_icmp .ge 42, 3) := by decide +kernel
theorem dX12_layer_64 : decode cX12_layer 64 = .ok (.iload 5, 2) := by decide +kernel
theorem dX12_layer_66 : decode cX12_layer 66 = .ok (.aload_n 0, 1) := by decide +kernel
theorem dX12_layer_67 : decode cX12_layer 67 = .ok (.aload_n 0, 1) := by decide +kernel
theorem dX12_layer_68 : decode cX12_layer 68 = .ok (.getfield 29, 3) := by decide +kernel
theorem dX12_layer_71 : decode cX12_layer 71 = .ok (.aload_n 0, 1) := by decide +kernel
theorem dX12_layer_72 : decode cX12_layer 72 = .ok (.getfield 17, 3) := by decide +kernel
theorem dX12_layer_75 : decode cX12_layer 75 = .ok (.iload_n 1, 1) := by decide +kernel
theorem dX12_layer_76 : decode cX12_layer 76 = .ok (.iaload, 1) := by decide +kernel
theorem dX12_layer_77 : decode cX12_layer 77 = .ok (.iload 6, 2) := by decide +kernel
theorem dX12_layer_79 : decode cX12_layer 79 = .ok (.invokevirtual 175, 3) := by decide +kernel
theorem dX12_layer_82 : decode cX12_layer 82 = .ok (.iconst (-1), 1) := by decide +kernel
theorem dX12_layer_83 : decode cX12_layer 83 = .ok (.if_icmp .eq 10, 3) := by decide +kernel
theorem dX12_layer_86 : decode cX12_layer 86 = .ok (.iconst 1, 1) := by decide +kernel
theorem dX12_layer_87 : decode cX12_layer 87 = .ok (.iload 6, 2) := by decide +kernel
theorem dX12_layer_89 : decode cX12_layer 89 = .ok (.ishl, 1) := by decide +kernel
theorem dX12_layer_90 : decode cX12_layer 90 = .ok (.goto 4, 3) := by decide +kernel
theorem dX12_layer_93 : decode cX12_layer 93 = .ok (.iconst 0, 1) := by decide +kernel
theorem dX12_layer_94 : decode cX12_layer 94 = .ok (.ior, 1) := by decide +kernel
theorem dX12_layer_95 : decode cX12_layer 95 = .ok (.istore 5, 2) := by decide +kernel
theorem dX12_layer_97 : decode cX12_layer 97 = .ok (.iinc 6 1, 3) := by decide +kernel
theorem dX12_layer_100 : decode cX12_layer 100 = .ok (.goto (-43), 3) := by decide +kernel
theorem dX12_layer_103 : decode cX12_layer 103 = .ok (.iconst 0, 1) := by decide +kernel
theorem dX12_layer_104 : decode cX12_layer 104 = .ok (.istore 6, 2) := by decide +kernel
theorem dX12_layer_106 : decode cX12_layer 106 = .ok (.iload 6, 2) := by decide +kernel
theorem dX12_layer_108 : decode cX12_layer 108 = .ok (.bipush 6, 2) := by decide +kernel
theorem dX12_layer_110 : decode cX12_layer 110 = .ok (.if_icmp .ge 45, 3) := by decide +kernel
theorem dX12_layer_113 : decode cX12_layer 113 = .ok (.iload 5, 2) := by decide +kernel
theorem dX12_layer_115 : decode cX12_layer 115 = .ok (.iload 6, 2) := by decide +kernel
theorem dX12_layer_117 : decode cX12_layer 117 = .ok (.ishr, 1) := by decide +kernel
theorem dX12_layer_118 : decode cX12_layer 118 = .ok (.iconst 1, 1) := by decide +kernel
theorem dX12_layer_119 : decode cX12_layer 119 = .ok (.iand, 1) := by decide +kernel
theorem dX12_layer_120 : decode cX12_layer 120 = .ok (.iconst 1, 1) := by decide +kernel
theorem dX12_layer_121 : decode cX12_layer 121 = .ok (.if_icmp .ne 28, 3) := by decide +kernel
theorem dX12_layer_124 : decode cX12_layer 124 = .ok (.aload_n 0, 1) := by decide +kernel
theorem dX12_layer_125 : decode cX12_layer 125 = .ok (.getfield 38, 3) := by decide +kernel
theorem dX12_layer_128 : decode cX12_layer 128 = .ok (.aload_n 0, 1) := by decide +kernel
theorem dX12_layer_129 : decode cX12_layer 129 = .ok (.aload_n 0, 1) := by decide +kernel
theorem dX12_layer_130 : decode cX12_layer 130 = .ok (.getfield 29, 3) := by decide +kernel
theorem dX12_layer_133 : decode cX12_layer 133 = .ok (.aload_n 0, 1) := by decide +kernel
theorem dX12_layer_134 : decode cX12_layer 134 = .ok (.getfield 17, 3) := by decide +kernel
theorem dX12_layer_137 : decode cX12_layer 137 = .ok (.iload_n 1, 1) := by decide +kernel
theorem dX12_layer_138 : decode cX12_layer 138 = .ok (.iaload, 1) := by decide +kernel
theorem dX12_layer_139 : decode cX12_layer 139 = .ok (.iload 6, 2) := by decide +kernel
theorem dX12_layer_141 : decode cX12_layer 141 = .ok (.invokevirtual 175, 3) := by decide +kernel
theorem dX12_layer_144 : decode cX12_layer 144 = .ok (.iconst 1, 1) := by decide +kernel
theorem dX12_layer_145 : decode cX12_layer 145 = .ok (.bastore, 1) := by decide +kernel
theorem dX12_layer_146 : decode cX12_layer 146 = .ok (.iinc 3 (-1), 3) := by decide +kernel
theorem dX12_layer_149 : decode cX12_layer 149 = .ok (.iinc 6 1, 3) := by decide +kernel
theorem dX12_layer_152 : decode cX12_layer 152 = .ok (.goto (-46), 3) := by decide +kernel
theorem dX12_layer_155 : decode cX12_layer 155 = .ok (.iload 4, 2) := by decide +kernel
theorem dX12_layer_157 : decode cX12_layer 157 = .ok (.iload_n 2, 1) := by decide +kernel
theorem dX12_layer_158 : decode cX12_layer 158 = .ok (.if_icmp .ne 6, 3) := by decide +kernel
theorem dX12_layer_161 : decode cX12_layer 161 = .ok (.iload 5, 2) := by decide +kernel
theorem dX12_layer_163 : decode cX12_layer 163 = .ok (.ireturn, 1) := by decide +kernel
theorem dX12_layer_164 : decode cX12_layer 164 = .ok (.iinc 4 1, 3) := by decide +kernel
theorem dX12_layer_167 : decode cX12_layer 167 = .ok (.goto (-120), 3) := by decide +kernel
theorem dX12_layer_170 : decode cX12_layer 170 = .ok (.iload_n 2, 1) := by decide +kernel
theorem dX12_layer_171 : decode cX12_layer 171 = .ok (.iconst (-1), 1) := by decide +kernel
theorem dX12_layer_172 : decode cX12_layer 172 = .ok (.if_icmp .ne 8, 3) := by decide +kernel
theorem dX12_layer_175 : decode cX12_layer 175 = .ok (.iload 4, 2) := by decide +kernel
theorem dX12_layer_177 : decode cX12_layer 177 = .ok (.goto 4, 3) := by decide +kernel
theorem dX12_layer_180 : decode cX12_layer 180 = .ok (.iconst (-1), 1) := by decide +kernel
theorem dX12_layer_181 : decode cX12_layer 181 = .ok (.ireturn, 1) := by decide +kernel
theorem dX12_ahead_0 : decode cX12_ahead 0 = .ok (.iload_n 1, 1) := by decide +kernel
theorem dX12_ahead_1 : decode cX12_ahead 1 = .ok (.invokestatic 172, 3) := by decide +kernel
theorem dX12_ahead_4 : decode cX12_ahead 4 = .ok (.ifCond .ne 6, 3) := by decide +kernel
theorem dX12_ahead_7 : decode cX12_ahead 7 = .ok (.bipush (-2), 2) := by decide +kernel
theorem dX12_ahead_9 : decode cX12_ahead 9 = .ok (.ireturn, 1) := by decide +kernel
theorem dX12_ahead_10 : decode cX12_ahead 10 = .ok (.aload_n 0, 1) := by decide +kernel
theorem dX12_ahead_11 : decode cX12_ahead 11 = .ok (.getfield 17, 3) := by decide +kernel
theorem dX12_ahead_14 : decode cX12_ahead 14 = .ok (.iload_n 1, 1) := by decide +kernel
theorem dX12_ahead_15 : decode cX12_ahead 15 = .ok (.iaload, 1) := by decide +kernel
theorem dX12_ahead_16 : decode cX12_ahead 16 = .ok (.istore 4, 2) := by decide +kernel
theorem dX12_ahead_18 : decode cX12_ahead 18 = .ok (.iload_n 2, 1) := by decide +kernel
theorem dX12_ahead_19 : decode cX12_ahead 19 = .ok (.iconst 0, 1) := by decide +kernel
theorem dX12_ahead_20 : decode cX12_ahead 20 = .ok (.iload 4, 2) := by decide +kernel
theorem dX12_ahead_22 : decode cX12_ahead 22 = .ok (.iconst 1, 1) := by decide +kernel
theorem dX12_ahead_23 : decode cX12_ahead 23 = .ok (.isub, 1) := by decide +kernel
theorem dX12_ahead_24 : decode cX12_ahead 24 = .ok (.invokestatic 83, 3) := by decide +kernel
theorem dX12_ahead_27 : decode cX12_ahead 27 = .ok (.ifCond .eq 15, 3) := by decide +kernel
theorem dX12_ahead_30 : decode cX12_ahead 30 = .ok (.iload_n 3, 1) := by decide +kernel
theorem dX12_ahead_31 : decode cX12_ahead 31 = .ok (.iconst 0, 1) := by decide +kernel
theorem dX12_ahead_32 : decode cX12_ahead 32 = .ok (.iload 4, 2) := by decide +kernel
theorem dX12_ahead_34 : decode cX12_ahead 34 = .ok (.iconst 1, 1) := by decide +kernel
theorem dX12_ahead_35 : decode cX12_ahead 35 = .ok (.isub, 1) := by decide +kernel
theorem dX12_ahead_36 : decode cX12_ahead 36 = .ok (.invokestatic 83, 3) := by decide +kernel
theorem dX12_ahead_39 : decode cX12_ahead 39 = .ok (.ifCond .ne 6, 3) := by decide +kernel
theorem dX12_ahead_42 : decode cX12_ahead 42 = .ok (.bipush (-3), 2) := by decide +kernel
theorem dX12_ahead_44 : decode cX12_ahead 44 = .ok (.ireturn, 1) := by decide +kernel
theorem dX12_ahead_45 : decode cX12_ahead 45 = .ok (.iload 4, 2) := by decide +kernel
theorem dX12_ahead_47 : decode cX12_ahead 47 = .ok (.iconst 1, 1) := by decide +kernel
theorem dX12_ahead_48 : decode cX12_ahead 48 = .ok (.isub, 1) := by decide +kernel
theorem dX12_ahead_49 : decode cX12_ahead 49 = .ok (.istore 5, 2) := by decide +kernel
theorem dX12_ahead_51 : decode cX12_ahead 51 = .ok (.iload 5, 2) := by decide +kernel
theorem dX12_ahead_53 : decode cX12_ahead 53 = .ok (.ifCond .lt 148, 3) := by decide +kernel
theorem dX12_ahead_56 : decode cX12_ahead 56 = .ok (.iconst 0, 1) := by decide +kernel
theorem dX12_ahead_57 : decode cX12_ahead 57 = .ok (.istore 6, 2) := by decide +kernel
theorem dX12_ahead_59 : decode cX12_ahead 59 = .ok (.iload 6, 2) := by decide +kernel
theorem dX12_ahead_61 : decode cX12_ahead 61 = .ok (.iload 4, 2) := by decide +kernel
theorem dX12_ahead_63 : decode cX12_ahead 63 = .ok (.if_icmp .ge 132, 3) := by decide +kernel
theorem dX12_ahead_66 : decode cX12_ahead 66 = .ok (.iload 5, 2) := by decide +kernel
theorem dX12_ahead_68 : decode cX12_ahead 68 = .ok (.iload 6, 2) := by decide +kernel
theorem dX12_ahead_70 : decode cX12_ahead 70 = .ok (.if_icmp .ge 38, 3) := by decide +kernel
theorem dX12_ahead_73 : decode cX12_ahead 73 = .ok (.aload_n 0, 1) := by decide +kernel
theorem dX12_ahead_74 : decode cX12_ahead 74 = .ok (.aload_n 0, 1) := by decide +kernel
theorem dX12_ahead_75 : decode cX12_ahead 75 = .ok (.getfield 20, 3) := by decide +kernel
theorem dX12_ahead_78 : decode cX12_ahead 78 = .ok (.bipush 24, 2) := by decide +kernel
theorem dX12_ahead_80 : decode cX12_ahead 80 = .ok (.iload_n 1, 1) := by decide +kernel
theorem dX12_ahead_81 : decode cX12_ahead 81 = .ok (.imul, 1) := by decide +kernel
theorem dX12_ahead_82 : decode cX12_ahead 82 = .ok (.iload 5, 2) := by decide +kernel
theorem dX12_ahead_84 : decode cX12_ahead 84 = .ok (.iadd, 1) := by decide +kernel
theorem dX12_ahead_85 : decode cX12_ahead 85 = .ok (.iaload, 1) := by decide +kernel
theorem dX12_ahead_86 : decode cX12_ahead 86 = .ok (.aload_n 0, 1) := by decide +kernel
theorem dX12_ahead_87 : decode cX12_ahead 87 = .ok (.getfield 20, 3) := by decide +kernel
theorem dX12_ahead_90 : decode cX12_ahead 90 = .ok (.bipush 24, 2) := by decide +kernel
theorem dX12_ahead_92 : decode cX12_ahead 92 = .ok (.iload_n 1, 1) := by decide +kernel
theorem dX12_ahead_93 : decode cX12_ahead 93 = .ok (.imul, 1) := by decide +kernel
theorem dX12_ahead_94 : decode cX12_ahead 94 = .ok (.iload 6, 2) := by decide +kernel
theorem dX12_ahead_96 : decode cX12_ahead 96 = .ok (.iadd, 1) := by decide +kernel
theorem dX12_ahead_97 : decode cX12_ahead 97 = .ok (.iaload, 1) := by decide +kernel
theorem dX12_ahead_98 : decode cX12_ahead 98 = .ok (.invokevirtual 168, 3) := by decide +kernel
theorem dX12_ahead_101 : decode cX12_ahead 101 = .ok (.ifCond .ne 7, 3) := by decide +kernel
theorem dX12_ahead_104 : decode cX12_ahead 104 = .ok (.iconst 1, 1) := by decide +kernel
theorem dX12_ahead_105 : decode cX12_ahead 105 = .ok (.goto 4, 3) := by decide +kernel
theorem dX12_ahead_108 : decode cX12_ahead 108 = .ok (.iconst 0, 1) := by decide +kernel
theorem dX12_ahead_109 : decode cX12_ahead 109 = .ok (.istore 7, 2) := by decide +kernel
theorem dX12_ahead_111 : decode cX12_ahead 111 = .ok (.iload 5, 2) := by decide +kernel
theorem dX12_ahead_113 : decode cX12_ahead 113 = .ok (.iconst 1, 1) := by decide +kernel
theorem dX12_ahead_114 : decode cX12_ahead 114 = .ok (.iadd, 1) := by decide +kernel
theorem dX12_ahead_115 : decode cX12_ahead 115 = .ok (.istore 8, 2) := by decide +kernel
theorem dX12_ahead_117 : decode cX12_ahead 117 = .ok (.iload 8, 2) := by decide +kernel
theorem dX12_ahead_119 : decode cX12_ahead 119 = .ok (.iload 6, 2) := by decide +kernel
theorem dX12_ahead_121 : decode cX12_ahead 121 = .ok (.if_icmp .ge 53, 3) := by decide +kernel
theorem dX12_ahead_124 : decode cX12_ahead 124 = .ok (.iload 7, 2) := by decide +kernel
theorem dX12_ahead_126 : decode cX12_ahead 126 = .ok (.ifCond .ne 35, 3) := by decide +kernel
theorem dX12_ahead_129 : decode cX12_ahead 129 = .ok (.aload_n 0, 1) := by decide +kernel
theorem dX12_ahead_130 : decode cX12_ahead 130 = .ok (.getfield 42, 3) := by decide +kernel
theorem dX12_ahead_133 : decode cX12_ahead 133 = .ok (.bipush 24, 2) := by decide +kernel
theorem dX12_ahead_135 : decode cX12_ahead 135 = .ok (.iload 5, 2) := by decide +kernel
theorem dX12_ahead_137 : decode cX12_ahead 137 = .ok (.imul, 1) := by decide +kernel
theorem dX12_ahead_138 : decode cX12_ahead 138 = .ok (.iload 8, 2) := by decide +kernel
theorem dX12_ahead_140 : decode cX12_ahead 140 = .ok (.iadd, 1) := by decide +kernel
theorem dX12_ahead_141 : decode cX12_ahead 141 = .ok (.baload, 1) := by decide +kernel
theorem dX12_ahead_142 : decode cX12_ahead 142 = .ok (.ifCond .eq 23, 3) := by decide +kernel
theorem dX12_ahead_145 : decode cX12_ahead 145 = .ok (.aload_n 0, 1) := by decide +kernel
theorem dX12_ahead_146 : decode cX12_ahead 146 = .ok (.getfield 42, 3) := by decide +kernel
theorem dX12_ahead_149 : decode cX12_ahead 149 = .ok (.bipush 24, 2) := by decide +kernel
theorem dX12_ahead_151 : decode cX12_ahead 151 = .ok (.iload 8, 2) := by decide +kernel
theorem dX12_ahead_153 : decode cX12_ahead 153 = .ok (.imul, 1) := by decide +kernel
theorem dX12_ahead_154 : decode cX12_ahead 154 = .ok (.iload 6, 2) := by decide +kernel
theorem dX12_ahead_156 : decode cX12_ahead 156 = .ok (.iadd, 1) := by decide +kernel
theorem dX12_ahead_157 : decode cX12_ahead 157 = .ok (.baload, 1) := by decide +kernel
theorem dX12_ahead_158 : decode cX12_ahead 158 = .ok (.ifCond .eq 7, 3) := by decide +kernel
theorem dX12_ahead_161 : decode cX12_ahead 161 = .ok (.iconst 1, 1) := by decide +kernel
theorem dX12_ahead_162 : decode cX12_ahead 162 = .ok (.goto 4, 3) := by decide +kernel
theorem dX12_ahead_165 : decode cX12_ahead 165 = .ok (.iconst 0, 1) := by decide +kernel
theorem dX12_ahead_166 : decode cX12_ahead 166 = .ok (.istore 7, 2) := by decide +kernel
theorem dX12_ahead_168 : decode cX12_ahead 168 = .ok (.iinc 8 1, 3) := by decide +kernel
theorem dX12_ahead_171 : decode cX12_ahead 171 = .ok (.goto (-54), 3) := by decide +kernel
theorem dX12_ahead_174 : decode cX12_ahead 174 = .ok (.aload_n 0, 1) := by decide +kernel
theorem dX12_ahead_175 : decode cX12_ahead 175 = .ok (.getfield 42, 3) := by decide +kernel
theorem dX12_ahead_178 : decode cX12_ahead 178 = .ok (.bipush 24, 2) := by decide +kernel
theorem dX12_ahead_180 : decode cX12_ahead 180 = .ok (.iload 5, 2) := by decide +kernel
theorem dX12_ahead_182 : decode cX12_ahead 182 = .ok (.imul, 1) := by decide +kernel
theorem dX12_ahead_183 : decode cX12_ahead 183 = .ok (.iload 6, 2) := by decide +kernel
theorem dX12_ahead_185 : decode cX12_ahead 185 = .ok (.iadd, 1) := by decide +kernel
theorem dX12_ahead_186 : decode cX12_ahead 186 = .ok (.iload 7, 2) := by decide +kernel
theorem dX12_ahead_188 : decode cX12_ahead 188 = .ok (.bastore, 1) := by decide +kernel
theorem dX12_ahead_189 : decode cX12_ahead 189 = .ok (.iinc 6 1, 3) := by decide +kernel
theorem dX12_ahead_192 : decode cX12_ahead 192 = .ok (.goto (-133), 3) := by decide +kernel
theorem dX12_ahead_195 : decode cX12_ahead 195 = .ok (.iinc 5 (-1), 3) := by decide +kernel
theorem dX12_ahead_198 : decode cX12_ahead 198 = .ok (.goto (-147), 3) := by decide +kernel
theorem dX12_ahead_201 : decode cX12_ahead 201 = .ok (.aload_n 0, 1) := by decide +kernel
theorem dX12_ahead_202 : decode cX12_ahead 202 = .ok (.getfield 42, 3) := by decide +kernel
theorem dX12_ahead_205 : decode cX12_ahead 205 = .ok (.bipush 24, 2) := by decide +kernel
theorem dX12_ahead_207 : decode cX12_ahead 207 = .ok (.iload_n 2, 1) := by decide +kernel
theorem dX12_ahead_208 : decode cX12_ahead 208 = .ok (.imul, 1) := by decide +kernel
theorem dX12_ahead_209 : decode cX12_ahead 209 = .ok (.iload_n 3, 1) := by decide +kernel
theorem dX12_ahead_210 : decode cX12_ahead 210 = .ok (.iadd, 1) := by decide +kernel
theorem dX12_ahead_211 : decode cX12_ahead 211 = .ok (.baload, 1) := by decide +kernel
theorem dX12_ahead_212 : decode cX12_ahead 212 = .ok (.ifCond .eq 7, 3) := by decide +kernel
theorem dX12_ahead_215 : decode cX12_ahead 215 = .ok (.iconst 1, 1) := by decide +kernel
theorem dX12_ahead_216 : decode cX12_ahead 216 = .ok (.goto 4, 3) := by decide +kernel
theorem dX12_ahead_219 : decode cX12_ahead 219 = .ok (.iconst 0, 1) := by decide +kernel
theorem dX12_ahead_220 : decode cX12_ahead 220 = .ok (.ireturn, 1) := by decide +kernel
theorem dX12_power25_0 : decode cX12_power25 0 = .ok (.iconst 1, 1) := by decide +kernel
theorem dX12_power25_1 : decode cX12_power25 1 = .ok (.istore_n 1, 1) := by decide +kernel
theorem dX12_power25_2 : decode cX12_power25 2 = .ok (.iconst 0, 1) := by decide +kernel
theorem dX12_power25_3 : decode cX12_power25 3 = .ok (.istore_n 2, 1) := by decide +kernel
theorem dX12_power25_4 : decode cX12_power25 4 = .ok (.iload_n 2, 1) := by decide +kernel
theorem dX12_power25_5 : decode cX12_power25 5 = .ok (.iload_n 0, 1) := by decide +kernel
theorem dX12_power25_6 : decode cX12_power25 6 = .ok (.if_icmp .ge 14, 3) := by decide +kernel
theorem dX12_power25_9 : decode cX12_power25 9 = .ok (.bipush 25, 2) := by decide +kernel
theorem dX12_power25_11 : decode cX12_power25 11 = .ok (.iload_n 1, 1) := by decide +kernel
theorem dX12_power25_12 : decode cX12_power25 12 = .ok (.imul, 1) := by decide +kernel
theorem dX12_power25_13 : decode cX12_power25 13 = .ok (.istore_n 1, 1) := by decide +kernel
theorem dX12_power25_14 : decode cX12_power25 14 = .ok (.iinc 2 1, 3) := by decide +kernel
theorem dX12_power25_17 : decode cX12_power25 17 = .ok (.goto (-13), 3) := by decide +kernel
theorem dX12_power25_20 : decode cX12_power25 20 = .ok (.iload_n 1, 1) := by decide +kernel
theorem dX12_power25_21 : decode cX12_power25 21 = .ok (.ireturn, 1) := by decide +kernel
theorem dX12_placeOf_0 : decode cX12_placeOf 0 = .ok (.iload_n 1, 1) := by decide +kernel
theorem dX12_placeOf_1 : decode cX12_placeOf 1 = .ok (.ldc 201, 2) := by decide +kernel
theorem dX12_placeOf_3 : decode cX12_placeOf 3 = .ok (.imul, 1) := by decide +kernel
theorem dX12_placeOf_4 : decode cX12_placeOf 4 = .ok (.iconst 5, 1) := by decide +kernel
theorem dX12_placeOf_5 : decode cX12_placeOf 5 = .ok (.ishr, 1) := by decide +kernel
theorem dX12_placeOf_6 : decode cX12_placeOf 6 = .ok (.iload_n 1, 1) := by decide +kernel
theorem dX12_placeOf_7 : decode cX12_placeOf 7 = .ok (.ixor, 1) := by decide +kernel
theorem dX12_placeOf_8 : decode cX12_placeOf 8 = .ok (.ldc 202, 2) := by decide +kernel
theorem dX12_placeOf_10 : decode cX12_placeOf 10 = .ok (.iand, 1) := by decide +kernel
theorem dX12_placeOf_11 : decode cX12_placeOf 11 = .ok (.istore_n 2, 1) := by decide +kernel
theorem dX12_placeOf_12 : decode cX12_placeOf 12 = .ok (.aload_n 0, 1) := by decide +kernel
theorem dX12_placeOf_13 : decode cX12_placeOf 13 = .ok (.getfield 53, 3) := by decide +kernel
theorem dX12_placeOf_16 : decode cX12_placeOf 16 = .ok (.iload_n 2, 1) := by decide +kernel
theorem dX12_placeOf_17 : decode cX12_placeOf 17 = .ok (.iaload, 1) := by decide +kernel
theorem dX12_placeOf_18 : decode cX12_placeOf 18 = .ok (.ifCond .eq 30, 3) := by decide +kernel
theorem dX12_placeOf_21 : decode cX12_placeOf 21 = .ok (.aload_n 0, 1) := by decide +kernel
theorem dX12_placeOf_22 : decode cX12_placeOf 22 = .ok (.getfield 45, 3) := by decide +kernel
theorem dX12_placeOf_25 : decode cX12_placeOf 25 = .ok (.aload_n 0, 1) := by decide +kernel
theorem dX12_placeOf_26 : decode cX12_placeOf 26 = .ok (.getfield 53, 3) := by decide +kernel
theorem dX12_placeOf_29 : decode cX12_placeOf 29 = .ok (.iload_n 2, 1) := by decide +kernel
theorem dX12_placeOf_30 : decode cX12_placeOf 30 = .ok (.iaload, 1) := by decide +kernel
theorem dX12_placeOf_31 : decode cX12_placeOf 31 = .ok (.iconst 1, 1) := by decide +kernel
theorem dX12_placeOf_32 : decode cX12_placeOf 32 = .ok (.isub, 1) := by decide +kernel
theorem dX12_placeOf_33 : decode cX12_placeOf 33 = .ok (.iaload, 1) := by decide +kernel
theorem dX12_placeOf_34 : decode cX12_placeOf 34 = .ok (.iload_n 1, 1) := by decide +kernel
theorem dX12_placeOf_35 : decode cX12_placeOf 35 = .ok (.if_icmp .eq 13, 3) := by decide +kernel
theorem dX12_placeOf_38 : decode cX12_placeOf 38 = .ok (.iload_n 2, 1) := by decide +kernel
theorem dX12_placeOf_39 : decode cX12_placeOf 39 = .ok (.iconst 1, 1) := by decide +kernel
theorem dX12_placeOf_40 : decode cX12_placeOf 40 = .ok (.iadd, 1) := by decide +kernel
theorem dX12_placeOf_41 : decode cX12_placeOf 41 = .ok (.ldc 202, 2) := by decide +kernel
theorem dX12_placeOf_43 : decode cX12_placeOf 43 = .ok (.iand, 1) := by decide +kernel
theorem dX12_placeOf_44 : decode cX12_placeOf 44 = .ok (.istore_n 2, 1) := by decide +kernel
theorem dX12_placeOf_45 : decode cX12_placeOf 45 = .ok (.goto (-33), 3) := by decide +kernel
theorem dX12_placeOf_48 : decode cX12_placeOf 48 = .ok (.iload_n 2, 1) := by decide +kernel
theorem dX12_placeOf_49 : decode cX12_placeOf 49 = .ok (.ireturn, 1) := by decide +kernel
theorem dX12_mayCome_0 : decode cX12_mayCome 0 = .ok (.iconst 0, 1) := by decide +kernel
theorem dX12_mayCome_1 : decode cX12_mayCome 1 = .ok (.istore_n 3, 1) := by decide +kernel
theorem dX12_mayCome_2 : decode cX12_mayCome 2 = .ok (.iconst 0, 1) := by decide +kernel
theorem dX12_mayCome_3 : decode cX12_mayCome 3 = .ok (.istore 4, 2) := by decide +kernel
theorem dX12_mayCome_5 : decode cX12_mayCome 5 = .ok (.iload 4, 2) := by decide +kernel
theorem dX12_mayCome_7 : decode cX12_mayCome 7 = .ok (.iload_n 1, 1) := by decide +kernel
theorem dX12_mayCome_8 : decode cX12_mayCome 8 = .ok (.if_icmp .ge 95, 3) := by decide +kernel
theorem dX12_mayCome_11 : decode cX12_mayCome 11 = .ok (.aload_n 0, 1) := by decide +kernel
theorem dX12_mayCome_12 : decode cX12_mayCome 12 = .ok (.getfield 29, 3) := by decide +kernel
theorem dX12_mayCome_15 : decode cX12_mayCome 15 = .ok (.iload 4, 2) := by decide +kernel
theorem dX12_mayCome_17 : decode cX12_mayCome 17 = .ok (.iaload, 1) := by decide +kernel
theorem dX12_mayCome_18 : decode cX12_mayCome 18 = .ok (.iload_n 2, 1) := by decide +kernel
theorem dX12_mayCome_19 : decode cX12_mayCome 19 = .ok (.if_icmp .ne 18, 3) := by decide +kernel
theorem dX12_mayCome_22 : decode cX12_mayCome 22 = .ok (.iinc 3 1, 3) := by decide +kernel
theorem dX12_mayCome_25 : decode cX12_mayCome 25 = .ok (.iload_n 3, 1) := by decide +kernel
theorem dX12_mayCome_26 : decode cX12_mayCome 26 = .ok (.aload_n 0, 1) := by decide +kernel
theorem dX12_mayCome_27 : decode cX12_mayCome 27 = .ok (.getfield 56, 3) := by decide +kernel
theorem dX12_mayCome_30 : decode cX12_mayCome 30 = .ok (.iload_n 2, 1) := by decide +kernel
theorem dX12_mayCome_31 : decode cX12_mayCome 31 = .ok (.iaload, 1) := by decide +kernel
theorem dX12_mayCome_32 : decode cX12_mayCome 32 = .ok (.if_icmp .le 65, 3) := by decide +kernel
theorem dX12_mayCome_35 : decode cX12_mayCome 35 = .ok (.iconst 1, 1) := by decide +kernel
theorem dX12_mayCome_36 : decode cX12_mayCome 36 = .ok (.ireturn, 1) := by decide +kernel
theorem dX12_mayCome_37 : decode cX12_mayCome 37 = .ok (.aload_n 0, 1) := by decide +kernel
theorem dX12_mayCome_38 : decode cX12_mayCome 38 = .ok (.aload_n 0, 1) := by decide +kernel
theorem dX12_mayCome_39 : decode cX12_mayCome 39 = .ok (.getfield 29, 3) := by decide +kernel
theorem dX12_mayCome_42 : decode cX12_mayCome 42 = .ok (.iload 4, 2) := by decide +kernel
theorem dX12_mayCome_44 : decode cX12_mayCome 44 = .ok (.iaload, 1) := by decide +kernel
theorem dX12_mayCome_45 : decode cX12_mayCome 45 = .ok (.iload_n 2, 1) := by decide +kernel
theorem dX12_mayCome_46 : decode cX12_mayCome 46 = .ok (.invokevirtual 168, 3) := by decide +kernel
theorem dX12_mayCome_49 : decode cX12_mayCome 49 = .ok (.ifCond .ne 48, 3) := by decide +kernel
theorem dX12_mayCome_52 : decode cX12_mayCome 52 = .ok (.aload_n 0, 1) := by decide +kernel
theorem dX12_mayCome_53 : decode cX12_mayCome 53 = .ok (.getfield 59, 3) := by decide +kernel
theorem dX12_mayCome_56 : decode cX12_mayCome 56 = .ok (.aload_n 0, 1) := by decide +kernel
theorem dX12_mayCome_57 : decode cX12_mayCome 57 = .ok (.getfield 29, 3) := by decide +kernel
theorem dX12_mayCome_60 : decode cX12_mayCome 60 = .ok (.iload 4, 2) := by decide +kernel
theorem dX12_mayCome_62 : decode cX12_mayCome 62 = .ok (.iaload, 1) := by decide +kernel
theorem dX12_mayCome_63 : decode cX12_mayCome 63 = .ok (.dup2, 1) := by decide +kernel
theorem dX12_mayCome_64 : decode cX12_mayCome 64 = .ok (.iaload, 1) := by decide +kernel
theorem dX12_mayCome_65 : decode cX12_mayCome 65 = .ok (.iconst 1, 1) := by decide +kernel
theorem dX12_mayCome_66 : decode cX12_mayCome 66 = .ok (.iadd, 1) := by decide +kernel
theorem dX12_mayCome_67 : decode cX12_mayCome 67 = .ok (.iastore, 1) := by decide +kernel
theorem dX12_mayCome_68 : decode cX12_mayCome 68 = .ok (.aload_n 0, 1) := by decide +kernel
theorem dX12_mayCome_69 : decode cX12_mayCome 69 = .ok (.getfield 59, 3) := by decide +kernel
theorem dX12_mayCome_72 : decode cX12_mayCome 72 = .ok (.aload_n 0, 1) := by decide +kernel
theorem dX12_mayCome_73 : decode cX12_mayCome 73 = .ok (.getfield 29, 3) := by decide +kernel
theorem dX12_mayCome_76 : decode cX12_mayCome 76 = .ok (.iload 4, 2) := by decide +kernel
theorem dX12_mayCome_78 : decode cX12_mayCome 78 = .ok (.iaload, 1) := by decide +kernel
theorem dX12_mayCome_79 : decode cX12_mayCome 79 = .ok (.iaload, 1) := by decide +kernel
theorem dX12_mayCome_80 : decode cX12_mayCome 80 = .ok (.aload_n 0, 1) := by decide +kernel
theorem dX12_mayCome_81 : decode cX12_mayCome 81 = .ok (.getfield 56, 3) := by decide +kernel
theorem dX12_mayCome_84 : decode cX12_mayCome 84 = .ok (.aload_n 0, 1) := by decide +kernel
theorem dX12_mayCome_85 : decode cX12_mayCome 85 = .ok (.getfield 29, 3) := by decide +kernel
theorem dX12_mayCome_88 : decode cX12_mayCome 88 = .ok (.iload 4, 2) := by decide +kernel
theorem dX12_mayCome_90 : decode cX12_mayCome 90 = .ok (.iaload, 1) := by decide +kernel
theorem dX12_mayCome_91 : decode cX12_mayCome 91 = .ok (.iaload, 1) := by decide +kernel
theorem dX12_mayCome_92 : decode cX12_mayCome 92 = .ok (.if_icmp .le 5, 3) := by decide +kernel
theorem dX12_mayCome_95 : decode cX12_mayCome 95 = .ok (.iconst 0, 1) := by decide +kernel
theorem dX12_mayCome_96 : decode cX12_mayCome 96 = .ok (.ireturn, 1) := by decide +kernel
theorem dX12_mayCome_97 : decode cX12_mayCome 97 = .ok (.iinc 4 1, 3) := by decide +kernel
theorem dX12_mayCome_100 : decode cX12_mayCome 100 = .ok (.goto (-95), 3) := by decide +kernel
theorem dX12_mayCome_103 : decode cX12_mayCome 103 = .ok (.iconst 0, 1) := by decide +kernel
theorem dX12_mayCome_104 : decode cX12_mayCome 104 = .ok (.ireturn, 1) := by decide +kernel
theorem dX12_findBeginnings_0 : decode cX12_findBeginnings 0 = .ok (.aload_n 0, 1) := by decide +kernel
theorem dX12_findBeginnings_1 : decode cX12_findBeginnings 1 = .ok (.iload_n 1, 1) := by decide +kernel
theorem dX12_findBeginnings_2 : decode cX12_findBeginnings 2 = .ok (.aload_n 0, 1) := by decide +kernel
theorem dX12_findBeginnings_3 : decode cX12_findBeginnings 3 = .ok (.getfield 29, 3) := by decide +kernel
theorem dX12_findBeginnings_6 : decode cX12_findBeginnings 6 = .ok (.invokevirtual 186, 3) := by decide +kernel
theorem dX12_findBeginnings_9 : decode cX12_findBeginnings 9 = .ok (.iconst 0, 1) := by decide +kernel
theorem dX12_findBeginnings_10 : decode cX12_findBeginnings 10 = .ok (.istore_n 2, 1) := by decide +kernel
theorem dX12_findBeginnings_11 : decode cX12_findBeginnings 11 = .ok (.iload_n 2, 1) := by decide +kernel
theorem dX12_findBeginnings_12 : decode cX12_findBeginnings 12 = .ok (.ldc 52, 2) := by decide +kernel
theorem dX12_findBeginnings_14 : decode cX12_findBeginnings 14 = .ok (.if_icmp .ge 16, 3) := by decide +kernel
theorem dX12_findBeginnings_17 : decode cX12_findBeginnings 17 = .ok (.aload_n 0, 1) := by decide +kernel
theorem dX12_findBeginnings_18 : decode cX12_findBeginnings 18 = .ok (.getfield 53, 3) := by decide +kernel
theorem dX12_findBeginnings_21 : decode cX12_findBeginnings 21 = .ok (.iload_n 2, 1) := by decide +kernel
theorem dX12_findBeginnings_22 : decode cX12_findBeginnings 22 = .ok (.iconst 0, 1) := by decide +kernel
theorem dX12_findBeginnings_23 : decode cX12_findBeginnings 23 = .ok (.iastore, 1) := by decide +kernel
theorem dX12_findBeginnings_24 : decode cX12_findBeginnings 24 = .ok (.iinc 2 1, 3) := by decide +kernel
theorem dX12_findBeginnings_27 : decode cX12_findBeginnings 27 = .ok (.goto (-16), 3) := by decide +kernel
theorem dX12_findBeginnings_30 : decode cX12_findBeginnings 30 = .ok (.aload_n 0, 1) := by decide +kernel
theorem dX12_findBeginnings_31 : decode cX12_findBeginnings 31 = .ok (.getfield 45, 3) := by decide +kernel
theorem dX12_findBeginnings_34 : decode cX12_findBeginnings 34 = .ok (.iconst 0, 1) := by decide +kernel
theorem dX12_findBeginnings_35 : decode cX12_findBeginnings 35 = .ok (.iconst 0, 1) := by decide +kernel
theorem dX12_findBeginnings_36 : decode cX12_findBeginnings 36 = .ok (.iastore, 1) := by decide +kernel
theorem dX12_findBeginnings_37 : decode cX12_findBeginnings 37 = .ok (.aload_n 0, 1) := by decide +kernel
theorem dX12_findBeginnings_38 : decode cX12_findBeginnings 38 = .ok (.getfield 48, 3) := by decide +kernel
theorem dX12_findBeginnings_41 : decode cX12_findBeginnings 41 = .ok (.iconst 0, 1) := by decide +kernel
theorem dX12_findBeginnings_42 : decode cX12_findBeginnings 42 = .ok (.lconst 1, 1) := by decide +kernel
theorem dX12_findBeginnings_43 : decode cX12_findBeginnings 43 = .ok (.lastore, 1) := by decide +kernel
theorem dX12_findBeginnings_44 : decode cX12_findBeginnings 44 = .ok (.aload_n 0, 1) := by decide +kernel
theorem dX12_findBeginnings_45 : decode cX12_findBeginnings 45 = .ok (.iconst 1, 1) := by decide +kernel
theorem dX12_findBeginnings_46 : decode cX12_findBeginnings 46 = .ok (.putfield 203, 3) := by decide +kernel
theorem dX12_findBeginnings_49 : decode cX12_findBeginnings 49 = .ok (.aload_n 0, 1) := by decide +kernel
theorem dX12_findBeginnings_50 : decode cX12_findBeginnings 50 = .ok (.getfield 53, 3) := by decide +kernel
theorem dX12_findBeginnings_53 : decode cX12_findBeginnings 53 = .ok (.aload_n 0, 1) := by decide +kernel
theorem dX12_findBeginnings_54 : decode cX12_findBeginnings 54 = .ok (.iconst 0, 1) := by decide +kernel
theorem dX12_findBeginnings_55 : decode cX12_findBeginnings 55 = .ok (.invokevirtual 206, 3) := by decide +kernel
theorem dX12_findBeginnings_58 : decode cX12_findBeginnings 58 = .ok (.iconst 1, 1) := by decide +kernel
theorem dX12_findBeginnings_59 : decode cX12_findBeginnings 59 = .ok (.iastore, 1) := by decide +kernel
theorem dX12_findBeginnings_60 : decode cX12_findBeginnings 60 = .ok (.aload_n 0, 1) := by decide +kernel
theorem dX12_findBeginnings_61 : decode cX12_findBeginnings 61 = .ok (.iconst 0, 1) := by decide +kernel
theorem dX12_findBeginnings_62 : decode cX12_findBeginnings 62 = .ok (.putfield 209, 3) := by decide +kernel
theorem dX12_findBeginnings_65 : decode cX12_findBeginnings 65 = .ok (.iconst 0, 1) := by decide +kernel
theorem dX12_findBeginnings_66 : decode cX12_findBeginnings 66 = .ok (.istore_n 2, 1) := by decide +kernel
theorem dX12_findBeginnings_67 : decode cX12_findBeginnings 67 = .ok (.iload_n 2, 1) := by decide +kernel
theorem dX12_findBeginnings_68 : decode cX12_findBeginnings 68 = .ok (.aload_n 0, 1) := by decide +kernel
theorem dX12_findBeginnings_69 : decode cX12_findBeginnings 69 = .ok (.getfield 203, 3) := by decide +kernel
theorem dX12_findBeginnings_72 : decode cX12_findBeginnings 72 = .ok (.if_icmp .ge 271, 3) := by decide +kernel
theorem dX12_findBeginnings_75 : decode cX12_findBeginnings 75 = .ok (.aload_n 0, 1) := by decide +kernel
theorem dX12_findBeginnings_76 : decode cX12_findBeginnings 76 = .ok (.getfield 203, 3) := by decide +kernel
theorem dX12_findBeginnings_79 : decode cX12_findBeginnings 79 = .ok (.sipush 20000, 3) := by decide +kernel
theorem dX12_findBeginnings_82 : decode cX12_findBeginnings 82 = .ok (.if_icmp .gt 261, 3) := by decide +kernel
theorem dX12_findBeginnings_85 : decode cX12_findBeginnings 85 = .ok (.aload_n 0, 1) := by decide +kernel
theorem dX12_findBeginnings_86 : decode cX12_findBeginnings 86 = .ok (.getfield 45, 3) := by decide +kernel
theorem dX12_findBeginnings_89 : decode cX12_findBeginnings 89 = .ok (.iload_n 2, 1) := by decide +kernel
theorem dX12_findBeginnings_90 : decode cX12_findBeginnings 90 = .ok (.iaload, 1) := by decide +kernel
theorem dX12_findBeginnings_91 : decode cX12_findBeginnings 91 = .ok (.istore_n 3, 1) := by decide +kernel
theorem dX12_findBeginnings_92 : decode cX12_findBeginnings 92 = .ok (.iconst 0, 1) := by decide +kernel
theorem dX12_findBeginnings_93 : decode cX12_findBeginnings 93 = .ok (.istore 4, 2) := by decide +kernel
theorem dX12_findBeginnings_95 : decode cX12_findBeginnings 95 = .ok (.iload 4, 2) := by decide +kernel
theorem dX12_findBeginnings_97 : decode cX12_findBeginnings 97 = .ok (.bipush 6, 2) := by decide +kernel
theorem dX12_findBeginnings_99 : decode cX12_findBeginnings 99 = .ok (.if_icmp .ge 25, 3) := by decide +kernel
theorem dX12_findBeginnings_102 : decode cX12_findBeginnings 102 = .ok (.aload_n 0, 1) := by decide +kernel
theorem dX12_findBeginnings_103 : decode cX12_findBeginnings 103 = .ok (.getfield 56, 3) := by decide +kernel
theorem dX12_findBeginnings_106 : decode cX12_findBeginnings 106 = .ok (.iload 4, 2) := by decide +kernel
theorem dX12_findBeginnings_108 : decode cX12_findBeginnings 108 = .ok (.iload_n 3, 1) := by decide +kernel
theorem dX12_findBeginnings_109 : decode cX12_findBeginnings 109 = .ok (.bipush 25, 2) := by decide +kernel
theorem dX12_findBeginnings_111 : decode cX12_findBeginnings 111 = .ok (.irem, 1) := by decide +kernel
theorem dX12_findBeginnings_112 : decode cX12_findBeginnings 112 = .ok (.iastore, 1) := by decide +kernel
theorem dX12_findBeginnings_113 : decode cX12_findBeginnings 113 = .ok (.iload_n 3, 1) := by decide +kernel
theorem dX12_findBeginnings_114 : decode cX12_findBeginnings 114 = .ok (.bipush 25, 2) := by decide +kernel
theorem dX12_findBeginnings_116 : decode cX12_findBeginnings 116 = .ok (.idiv, 1) := by decide +kernel
theorem dX12_findBeginnings_117 : decode cX12_findBeginnings 117 = .ok (.istore_n 3, 1) := by decide +kernel
theorem dX12_findBeginnings_118 : decode cX12_findBeginnings 118 = .ok (.iinc 4 1, 3) := by decide +kernel
theorem dX12_findBeginnings_121 : decode cX12_findBeginnings 121 = .ok (.goto (-26), 3) := by decide +kernel
theorem dX12_findBeginnings_124 : decode cX12_findBeginnings 124 = .ok (.iconst 0, 1) := by decide +kernel
theorem dX12_findBeginnings_125 : decode cX12_findBeginnings 125 = .ok (.istore 4, 2) := by decide +kernel
theorem dX12_findBeginnings_127 : decode cX12_findBeginnings 127 = .ok (.iconst 0, 1) := by decide +kernel
theorem dX12_findBeginnings_128 : decode cX12_findBeginnings 128 = .ok (.istore 5, 2) := by decide +kernel
theorem dX12_findBeginnings_130 : decode cX12_findBeginnings 130 = .ok (.iload 5, 2) := by decide +kernel
theorem dX12_findBeginnings_132 : decode cX12_findBeginnings 132 = .ok (.bipush 6, 2) := by decide +kernel
theorem dX12_findBeginnings_134 : decode cX12_findBeginnings 134 = .ok (.if_icmp .ge 181, 3) := by decide +kernel
theorem dX12_findBeginnings_137 : decode cX12_findBeginnings 137 = .ok (.iconst 0, 1) := by decide +kernel
theorem dX12_findBeginnings_138 : decode cX12_findBeginnings 138 = .ok (.istore 6, 2) := by decide +kernel
theorem dX12_findBeginnings_140 : decode cX12_findBeginnings 140 = .ok (.iload 6, 2) := by decide +kernel
theorem dX12_findBeginnings_142 : decode cX12_findBeginnings 142 = .ok (.bipush 6, 2) := by decide +kernel
theorem dX12_findBeginnings_144 : decode cX12_findBeginnings 144 = .ok (.if_icmp .ge 17, 3) := by decide +kernel
theorem dX12_findBeginnings_147 : decode cX12_findBeginnings 147 = .ok (.aload_n 0, 1) := by decide +kernel
theorem dX12_findBeginnings_148 : decode cX12_findBeginnings 148 = .ok (.getfield 59, 3) := by decide +kernel
theorem dX12_findBeginnings_151 : decode cX12_findBeginnings 151 = .ok (.iload 6, 2) := by decide +kernel
theorem dX12_findBeginnings_153 : decode cX12_findBeginnings 153 = .ok (.iconst 0, 1) := by decide +kernel
theorem dX12_findBeginnings_154 : decode cX12_findBeginnings 154 = .ok (.iastore, 1) := by decide +kernel
theorem dX12_findBeginnings_155 : decode cX12_findBeginnings 155 = .ok (.iinc 6 1, 3) := by decide +kernel
theorem dX12_findBeginnings_158 : decode cX12_findBeginnings 158 = .ok (.goto (-18), 3) := by decide +kernel
theorem dX12_findBeginnings_161 : decode cX12_findBeginnings 161 = .ok (.aload_n 0, 1) := by decide +kernel
theorem dX12_findBeginnings_162 : decode cX12_findBeginnings 162 = .ok (.aload_n 0, 1) := by decide +kernel
theorem dX12_findBeginnings_163 : decode cX12_findBeginnings 163 = .ok (.getfield 17, 3) := by decide +kernel
theorem dX12_findBeginnings_166 : decode cX12_findBeginnings 166 = .ok (.iload_n 1, 1) := by decide +kernel
theorem dX12_findBeginnings_167 : decode cX12_findBeginnings 167 = .ok (.iaload, 1) := by decide +kernel
theorem dX12_findBeginnings_168 : decode cX12_findBeginnings 168 = .ok (.iload 5, 2) := by decide +kernel
theorem dX12_findBeginnings_170 : decode cX12_findBeginnings 170 = .ok (.invokevirtual 212, 3) := by decide +kernel
theorem dX12_findBeginnings_173 : decode cX12_findBeginnings 173 = .ok (.ifCond .eq 136, 3) := by decide +kernel
theorem dX12_findBeginnings_176 : decode cX12_findBeginnings 176 = .ok (.iinc 4 1, 3) := by decide +kernel
theorem dX12_findBeginnings_179 : decode cX12_findBeginnings 179 = .ok (.aload_n 0, 1) := by decide +kernel
theorem dX12_findBeginnings_180 : decode cX12_findBeginnings 180 = .ok (.getfield 45, 3) := by decide +kernel
theorem dX12_findBeginnings_183 : decode cX12_findBeginnings 183 = .ok (.iload_n 2, 1) := by decide +kernel
theorem dX12_findBeginnings_184 : decode cX12_findBeginnings 184 = .ok (.iaload, 1) := by decide +kernel
theorem dX12_findBeginnings_185 : decode cX12_findBeginnings 185 = .ok (.iload 5, 2) := by decide +kernel
theorem dX12_findBeginnings_187 : decode cX12_findBeginnings 187 = .ok (.invokestatic 215, 3) := by decide +kernel
theorem dX12_findBeginnings_190 : decode cX12_findBeginnings 190 = .ok (.iadd, 1) := by decide +kernel
theorem dX12_findBeginnings_191 : decode cX12_findBeginnings 191 = .ok (.istore 6, 2) := by decide +kernel
theorem dX12_findBeginnings_193 : decode cX12_findBeginnings 193 = .ok (.aload_n 0, 1) := by decide +kernel
theorem dX12_findBeginnings_194 : decode cX12_findBeginnings 194 = .ok (.iload 6, 2) := by decide +kernel
theorem dX12_findBeginnings_196 : decode cX12_findBeginnings 196 = .ok (.invokevirtual 206, 3) := by decide +kernel
theorem dX12_findBeginnings_199 : decode cX12_findBeginnings 199 = .ok (.istore 7, 2) := by decide +kernel
theorem dX12_findBeginnings_201 : decode cX12_findBeginnings 201 = .ok (.aload_n 0, 1) := by decide +kernel
theorem dX12_findBeginnings_202 : decode cX12_findBeginnings 202 = .ok (.getfield 53, 3) := by decide +kernel
theorem dX12_findBeginnings_205 : decode cX12_findBeginnings 205 = .ok (.iload 7, 2) := by decide +kernel
theorem dX12_findBeginnings_207 : decode cX12_findBeginnings 207 = .ok (.iaload, 1) := by decide +kernel
theorem dX12_findBeginnings_208 : decode cX12_findBeginnings 208 = .ok (.ifCond .ne 55, 3) := by decide +kernel
theorem dX12_findBeginnings_211 : decode cX12_findBeginnings 211 = .ok (.aload_n 0, 1) := by decide +kernel
theorem dX12_findBeginnings_212 : decode cX12_findBeginnings 212 = .ok (.getfield 203, 3) := by decide +kernel
theorem dX12_findBeginnings_215 : decode cX12_findBeginnings 215 = .ok (.sipush 20000, 3) := by decide +kernel
theorem dX12_findBeginnings_218 : decode cX12_findBeginnings 218 = .ok (.if_icmp .gt 45, 3) := by decide +kernel
theorem dX12_findBeginnings_221 : decode cX12_findBeginnings 221 = .ok (.aload_n 0, 1) := by decide +kernel
theorem dX12_findBeginnings_222 : decode cX12_findBeginnings 222 = .ok (.getfield 45, 3) := by decide +kernel
theorem dX12_findBeginnings_225 : decode cX12_findBeginnings 225 = .ok (.aload_n 0, 1) := by decide +kernel
theorem dX12_findBeginnings_226 : decode cX12_findBeginnings 226 = .ok (.getfield 203, 3) := by decide +kernel
theorem dX12_findBeginnings_229 : decode cX12_findBeginnings 229 = .ok (.iload 6, 2) := by decide +kernel
theorem dX12_findBeginnings_231 : decode cX12_findBeginnings 231 = .ok (.iastore, 1) := by decide +kernel
theorem dX12_findBeginnings_232 : decode cX12_findBeginnings 232 = .ok (.aload_n 0, 1) := by decide +kernel
theorem dX12_findBeginnings_233 : decode cX12_findBeginnings 233 = .ok (.getfield 48, 3) := by decide +kernel
theorem dX12_findBeginnings_236 : decode cX12_findBeginnings 236 = .ok (.aload_n 0, 1) := by decide +kernel
theorem dX12_findBeginnings_237 : decode cX12_findBeginnings 237 = .ok (.getfield 203, 3) := by decide +kernel
theorem dX12_findBeginnings_240 : decode cX12_findBeginnings 240 = .ok (.lconst 0, 1) := by decide +kernel
theorem dX12_findBeginnings_241 : decode cX12_findBeginnings 241 = .ok (.lastore, 1) := by decide +kernel
theorem dX12_findBeginnings_242 : decode cX12_findBeginnings 242 = .ok (.aload_n 0, 1) := by decide +kernel
theorem dX12_findBeginnings_243 : decode cX12_findBeginnings 243 = .ok (.dup, 1) := by decide +kernel
theorem dX12_findBeginnings_244 : decode cX12_findBeginnings 244 = .ok (.getfield 203, 3) := by decide +kernel
theorem dX12_findBeginnings_247 : decode cX12_findBeginnings 247 = .ok (.iconst 1, 1) := by decide +kernel
theorem dX12_findBeginnings_248 : decode cX12_findBeginnings 248 = .ok (.iadd, 1) := by decide +kernel
theorem dX12_findBeginnings_249 : decode cX12_findBeginnings 249 = .ok (.putfield 203, 3) := by decide +kernel
theorem dX12_findBeginnings_252 : decode cX12_findBeginnings 252 = .ok (.aload_n 0, 1) := by decide +kernel
theorem dX12_findBeginnings_253 : decode cX12_findBeginnings 253 = .ok (.getfield 53, 3) := by decide +kernel
theorem dX12_findBeginnings_256 : decode cX12_findBeginnings 256 = .ok (.iload 7, 2) := by decide +kernel
theorem dX12_findBeginnings_258 : decode cX12_findBeginnings 258 = .ok (.aload_n 0, 1) := by decide +kernel
theorem dX12_findBeginnings_259 : decode cX12_findBeginnings 259 = .ok (.getfield 203, 3) := by decide +kernel
theorem dX12_findBeginnings_262 : decode cX12_findBeginnings 262 = .ok (.iastore, 1) := by decide +kernel
theorem dX12_findBeginnings_263 : decode cX12_findBeginnings 263 = .ok (.aload_n 0, 1) := by decide +kernel
theorem dX12_findBeginnings_264 : decode cX12_findBeginnings 264 = .ok (.getfield 53, 3) := by decide +kernel
theorem dX12_findBeginnings_267 : decode cX12_findBeginnings 267 = .ok (.iload 7, 2) := by decide +kernel
theorem dX12_findBeginnings_269 : decode cX12_findBeginnings 269 = .ok (.iaload, 1) := by decide +kernel
theorem dX12_findBeginnings_270 : decode cX12_findBeginnings 270 = .ok (.ifCond .eq 39, 3) := by decide +kernel
theorem dX12_findBeginnings_273 : decode cX12_findBeginnings 273 = .ok (.aload_n 0, 1) := by decide +kernel
theorem dX12_findBeginnings_274 : decode cX12_findBeginnings 274 = .ok (.getfield 53, 3) := by decide +kernel
theorem dX12_findBeginnings_277 : decode cX12_findBeginnings 277 = .ok (.iload 7, 2) := by decide +kernel
theorem dX12_findBeginnings_279 : decode cX12_findBeginnings 279 = .ok (.iaload, 1) := by decide +kernel
theorem dX12_findBeginnings_280 : decode cX12_findBeginnings 280 = .ok (.iconst 1, 1) := by decide +kernel
theorem dX12_findBeginnings_281 : decode cX12_findBeginnings 281 = .ok (.isub, 1) := by decide +kernel
theorem dX12_findBeginnings_282 : decode cX12_findBeginnings 282 = .ok (.istore 8, 2) := by decide +kernel
theorem dX12_findBeginnings_284 : decode cX12_findBeginnings 284 = .ok (.aload_n 0, 1) := by decide +kernel
theorem dX12_findBeginnings_285 : decode cX12_findBeginnings 285 = .ok (.getfield 48, 3) := by decide +kernel
theorem dX12_findBeginnings_288 : decode cX12_findBeginnings 288 = .ok (.iload 8, 2) := by decide +kernel
theorem dX12_findBeginnings_290 : decode cX12_findBeginnings 290 = .ok (.aload_n 0, 1) := by decide +kernel
theorem dX12_findBeginnings_291 : decode cX12_findBeginnings 291 = .ok (.getfield 48, 3) := by decide +kernel
theorem dX12_findBeginnings_294 : decode cX12_findBeginnings 294 = .ok (.iload 8, 2) := by decide +kernel
theorem dX12_findBeginnings_296 : decode cX12_findBeginnings 296 = .ok (.laload, 1) := by decide +kernel
theorem dX12_findBeginnings_297 : decode cX12_findBeginnings 297 = .ok (.aload_n 0, 1) := by decide +kernel
theorem dX12_findBeginnings_298 : decode cX12_findBeginnings 298 = .ok (.getfield 48, 3) := by decide +kernel
theorem dX12_findBeginnings_301 : decode cX12_findBeginnings 301 = .ok (.iload_n 2, 1) := by decide +kernel
theorem dX12_findBeginnings_302 : decode cX12_findBeginnings 302 = .ok (.laload, 1) := by decide +kernel
theorem dX12_findBeginnings_303 : decode cX12_findBeginnings 303 = .ok (.ladd, 1) := by decide +kernel
theorem dX12_findBeginnings_304 : decode cX12_findBeginnings 304 = .ok (.ldc2_w 218, 3) := by decide +kernel
theorem dX12_findBeginnings_307 : decode cX12_findBeginnings 307 = .ok (.lrem, 1) := by decide +kernel
theorem dX12_findBeginnings_308 : decode cX12_findBeginnings 308 = .ok (.lastore, 1) := by decide +kernel
theorem dX12_findBeginnings_309 : decode cX12_findBeginnings 309 = .ok (.iinc 5 1, 3) := by decide +kernel
theorem dX12_findBeginnings_312 : decode cX12_findBeginnings 312 = .ok (.goto (-182), 3) := by decide +kernel
theorem dX12_findBeginnings_315 : decode cX12_findBeginnings 315 = .ok (.aload_n 0, 1) := by decide +kernel
theorem dX12_findBeginnings_316 : decode cX12_findBeginnings 316 = .ok (.iload 4, 2) := by decide +kernel
theorem dX12_findBeginnings_318 : decode cX12_findBeginnings 318 = .ok (.aload_n 0, 1) := by decide +kernel
theorem dX12_findBeginnings_319 : decode cX12_findBeginnings 319 = .ok (.getfield 209, 3) := by decide +kernel
theorem dX12_findBeginnings_322 : decode cX12_findBeginnings 322 = .ok (.if_icmp .le 8, 3) := by decide +kernel
theorem dX12_findBeginnings_325 : decode cX12_findBeginnings 325 = .ok (.iload 4, 2) := by decide +kernel
theorem dX12_findBeginnings_327 : decode cX12_findBeginnings 327 = .ok (.goto 7, 3) := by decide +kernel
theorem dX12_findBeginnings_330 : decode cX12_findBeginnings 330 = .ok (.aload_n 0, 1) := by decide +kernel
theorem dX12_findBeginnings_331 : decode cX12_findBeginnings 331 = .ok (.getfield 209, 3) := by decide +kernel
theorem dX12_findBeginnings_334 : decode cX12_findBeginnings 334 = .ok (.putfield 209, 3) := by decide +kernel
theorem dX12_findBeginnings_337 : decode cX12_findBeginnings 337 = .ok (.iinc 2 1, 3) := by decide +kernel
theorem dX12_findBeginnings_340 : decode cX12_findBeginnings 340 = .ok (.goto (-273), 3) := by decide +kernel
theorem dX12_findBeginnings_343 : decode cX12_findBeginnings 343 = .ok (.return_, 1) := by decide +kernel
theorem dX12_begins_0 : decode cX12_begins 0 = .ok (.iload_n 1, 1) := by decide +kernel
theorem dX12_begins_1 : decode cX12_begins 1 = .ok (.invokestatic 172, 3) := by decide +kernel
theorem dX12_begins_4 : decode cX12_begins 4 = .ok (.ifCond .ne 6, 3) := by decide +kernel
theorem dX12_begins_7 : decode cX12_begins 7 = .ok (.bipush (-2), 2) := by decide +kernel
theorem dX12_begins_9 : decode cX12_begins 9 = .ok (.ireturn, 1) := by decide +kernel
theorem dX12_begins_10 : decode cX12_begins 10 = .ok (.iload_n 2, 1) := by decide +kernel
theorem dX12_begins_11 : decode cX12_begins 11 = .ok (.iconst 0, 1) := by decide +kernel
theorem dX12_begins_12 : decode cX12_begins 12 = .ok (.iconst 2, 1) := by decide +kernel
theorem dX12_begins_13 : decode cX12_begins 13 = .ok (.invokestatic 83, 3) := by decide +kernel
theorem dX12_begins_16 : decode cX12_begins 16 = .ok (.ifCond .ne 6, 3) := by decide +kernel
theorem dX12_begins_19 : decode cX12_begins 19 = .ok (.bipush (-3), 2) := by decide +kernel
theorem dX12_begins_21 : decode cX12_begins 21 = .ok (.ireturn, 1) := by decide +kernel
theorem dX12_begins_22 : decode cX12_begins 22 = .ok (.aload_n 0, 1) := by decide +kernel
theorem dX12_begins_23 : decode cX12_begins 23 = .ok (.iload_n 1, 1) := by decide +kernel
theorem dX12_begins_24 : decode cX12_begins 24 = .ok (.invokevirtual 220, 3) := by decide +kernel
theorem dX12_begins_27 : decode cX12_begins 27 = .ok (.aload_n 0, 1) := by decide +kernel
theorem dX12_begins_28 : decode cX12_begins 28 = .ok (.getfield 203, 3) := by decide +kernel
theorem dX12_begins_31 : decode cX12_begins 31 = .ok (.sipush 20000, 3) := by decide +kernel
theorem dX12_begins_34 : decode cX12_begins 34 = .ok (.if_icmp .le 6, 3) := by decide +kernel
theorem dX12_begins_37 : decode cX12_begins 37 = .ok (.bipush (-6), 2) := by decide +kernel
theorem dX12_begins_39 : decode cX12_begins 39 = .ok (.ireturn, 1) := by decide +kernel
theorem dX12_begins_40 : decode cX12_begins 40 = .ok (.iload_n 2, 1) := by decide +kernel
theorem dX12_begins_41 : decode cX12_begins 41 = .ok (.ifCond .ne 10, 3) := by decide +kernel
theorem dX12_begins_44 : decode cX12_begins 44 = .ok (.aload_n 0, 1) := by decide +kernel
theorem dX12_begins_45 : decode cX12_begins 45 = .ok (.getfield 203, 3) := by decide +kernel
theorem dX12_begins_48 : decode cX12_begins 48 = .ok (.goto 27, 3) := by decide +kernel
theorem dX12_begins_51 : decode cX12_begins 51 = .ok (.iload_n 2, 1) := by decide +kernel
theorem dX12_begins_52 : decode cX12_begins 52 = .ok (.iconst 1, 1) := by decide +kernel
theorem dX12_begins_53 : decode cX12_begins 53 = .ok (.if_icmp .ne 18, 3) := by decide +kernel
theorem dX12_begins_56 : decode cX12_begins 56 = .ok (.aload_n 0, 1) := by decide +kernel
theorem dX12_begins_57 : decode cX12_begins 57 = .ok (.getfield 48, 3) := by decide +kernel
theorem dX12_begins_60 : decode cX12_begins 60 = .ok (.aload_n 0, 1) := by decide +kernel
theorem dX12_begins_61 : decode cX12_begins 61 = .ok (.getfield 203, 3) := by decide +kernel
theorem dX12_begins_64 : decode cX12_begins 64 = .ok (.iconst 1, 1) := by decide +kernel
theorem dX12_begins_65 : decode cX12_begins 65 = .ok (.isub, 1) := by decide +kernel
theorem dX12_begins_66 : decode cX12_begins 66 = .ok (.laload, 1) := by decide +kernel
theorem dX12_begins_67 : decode cX12_begins 67 = .ok (.l2i, 1) := by decide +kernel
theorem dX12_begins_68 : decode cX12_begins 68 = .ok (.goto 7, 3) := by decide +kernel
theorem dX12_begins_71 : decode cX12_begins 71 = .ok (.aload_n 0, 1) := by decide +kernel
theorem dX12_begins_72 : decode cX12_begins 72 = .ok (.getfield 209, 3) := by decide +kernel
theorem dX12_begins_75 : decode cX12_begins 75 = .ok (.ireturn, 1) := by decide +kernel
theorem dX12_areThree_0 : decode cX12_areThree 0 = .ok (.iload_n 0, 1) := by decide +kernel
theorem dX12_areThree_1 : decode cX12_areThree 1 = .ok (.invokestatic 172, 3) := by decide +kernel
theorem dX12_areThree_4 : decode cX12_areThree 4 = .ok (.ifCond .eq 21, 3) := by decide +kernel
theorem dX12_areThree_7 : decode cX12_areThree 7 = .ok (.iload_n 1, 1) := by decide +kernel
theorem dX12_areThree_8 : decode cX12_areThree 8 = .ok (.invokestatic 172, 3) := by decide +kernel
theorem dX12_areThree_11 : decode cX12_areThree 11 = .ok (.ifCond .eq 14, 3) := by decide +kernel
theorem dX12_areThree_14 : decode cX12_areThree 14 = .ok (.iload_n 2, 1) := by decide +kernel
theorem dX12_areThree_15 : decode cX12_areThree 15 = .ok (.invokestatic 172, 3) := by decide +kernel
theorem dX12_areThree_18 : decode cX12_areThree 18 = .ok (.ifCond .eq 7, 3) := by decide +kernel
theorem dX12_areThree_21 : decode cX12_areThree 21 = .ok (.iconst 1, 1) := by decide +kernel
theorem dX12_areThree_22 : decode cX12_areThree 22 = .ok (.goto 4, 3) := by decide +kernel
theorem dX12_areThree_25 : decode cX12_areThree 25 = .ok (.iconst 0, 1) := by decide +kernel
theorem dX12_areThree_26 : decode cX12_areThree 26 = .ok (.ireturn, 1) := by decide +kernel
theorem dX12_join_0 : decode cX12_join 0 = .ok (.iload_n 1, 1) := by decide +kernel
theorem dX12_join_1 : decode cX12_join 1 = .ok (.iload_n 2, 1) := by decide +kernel
theorem dX12_join_2 : decode cX12_join 2 = .ok (.iload_n 3, 1) := by decide +kernel
theorem dX12_join_3 : decode cX12_join 3 = .ok (.invokestatic 223, 3) := by decide +kernel
theorem dX12_join_6 : decode cX12_join 6 = .ok (.ifCond .ne 6, 3) := by decide +kernel
theorem dX12_join_9 : decode cX12_join 9 = .ok (.bipush (-2), 2) := by decide +kernel
theorem dX12_join_11 : decode cX12_join 11 = .ok (.ireturn, 1) := by decide +kernel
theorem dX12_join_12 : decode cX12_join 12 = .ok (.aload_n 0, 1) := by decide +kernel
theorem dX12_join_13 : decode cX12_join 13 = .ok (.getfield 17, 3) := by decide +kernel
theorem dX12_join_16 : decode cX12_join 16 = .ok (.iload_n 1, 1) := by decide +kernel
theorem dX12_join_17 : decode cX12_join 17 = .ok (.iaload, 1) := by decide +kernel
theorem dX12_join_18 : decode cX12_join 18 = .ok (.aload_n 0, 1) := by decide +kernel
theorem dX12_join_19 : decode cX12_join 19 = .ok (.getfield 17, 3) := by decide +kernel
theorem dX12_join_22 : decode cX12_join 22 = .ok (.iload_n 2, 1) := by decide +kernel
theorem dX12_join_23 : decode cX12_join 23 = .ok (.iaload, 1) := by decide +kernel
theorem dX12_join_24 : decode cX12_join 24 = .ok (.iadd, 1) := by decide +kernel
theorem dX12_join_25 : decode cX12_join 25 = .ok (.istore 4, 2) := by decide +kernel
theorem dX12_join_27 : decode cX12_join 27 = .ok (.iload 4, 2) := by decide +kernel
theorem dX12_join_29 : decode cX12_join 29 = .ok (.bipush 24, 2) := by decide +kernel
theorem dX12_join_31 : decode cX12_join 31 = .ok (.if_icmp .le 6, 3) := by decide +kernel
theorem dX12_join_34 : decode cX12_join 34 = .ok (.bipush (-5), 2) := by decide +kernel
theorem dX12_join_36 : decode cX12_join 36 = .ok (.ireturn, 1) := by decide +kernel
theorem dX12_join_37 : decode cX12_join 37 = .ok (.aload_n 0, 1) := by decide +kernel
theorem dX12_join_38 : decode cX12_join 38 = .ok (.iload_n 1, 1) := by decide +kernel
theorem dX12_join_39 : decode cX12_join 39 = .ok (.aload_n 0, 1) := by decide +kernel
theorem dX12_join_40 : decode cX12_join 40 = .ok (.getfield 29, 3) := by decide +kernel
theorem dX12_join_43 : decode cX12_join 43 = .ok (.invokevirtual 186, 3) := by decide +kernel
theorem dX12_join_46 : decode cX12_join 46 = .ok (.iconst 0, 1) := by decide +kernel
theorem dX12_join_47 : decode cX12_join 47 = .ok (.istore 5, 2) := by decide +kernel
theorem dX12_join_49 : decode cX12_join 49 = .ok (.iload 5, 2) := by decide +kernel
theorem dX12_join_51 : decode cX12_join 51 = .ok (.aload_n 0, 1) := by decide +kernel
theorem dX12_join_52 : decode cX12_join 52 = .ok (.getfield 17, 3) := by decide +kernel
theorem dX12_join_55 : decode cX12_join 55 = .ok (.iload_n 2, 1) := by decide +kernel
theorem dX12_join_56 : decode cX12_join 56 = .ok (.iaload, 1) := by decide +kernel
theorem dX12_join_57 : decode cX12_join 57 = .ok (.if_icmp .ge 35, 3) := by decide +kernel
theorem dX12_join_60 : decode cX12_join 60 = .ok (.aload_n 0, 1) := by decide +kernel
theorem dX12_join_61 : decode cX12_join 61 = .ok (.getfield 29, 3) := by decide +kernel
theorem dX12_join_64 : decode cX12_join 64 = .ok (.aload_n 0, 1) := by decide +kernel
theorem dX12_join_65 : decode cX12_join 65 = .ok (.getfield 17, 3) := by decide +kernel
theorem dX12_join_68 : decode cX12_join 68 = .ok (.iload_n 1, 1) := by decide +kernel
theorem dX12_join_69 : decode cX12_join 69 = .ok (.iaload, 1) := by decide +kernel
theorem dX12_join_70 : decode cX12_join 70 = .ok (.iload 5, 2) := by decide +kernel
theorem dX12_join_72 : decode cX12_join 72 = .ok (.iadd, 1) := by decide +kernel
theorem dX12_join_73 : decode cX12_join 73 = .ok (.aload_n 0, 1) := by decide +kernel
theorem dX12_join_74 : decode cX12_join 74 = .ok (.getfield 20, 3) := by decide +kernel
theorem dX12_join_77 : decode cX12_join 77 = .ok (.bipush 24, 2) := by decide +kernel
theorem dX12_join_79 : decode cX12_join 79 = .ok (.iload_n 2, 1) := by decide +kernel
theorem dX12_join_80 : decode cX12_join 80 = .ok (.imul, 1) := by decide +kernel
theorem dX12_join_81 : decode cX12_join 81 = .ok (.iload 5, 2) := by decide +kernel
theorem dX12_join_83 : decode cX12_join 83 = .ok (.iadd, 1) := by decide +kernel
theorem dX12_join_84 : decode cX12_join 84 = .ok (.iaload, 1) := by decide +kernel
theorem dX12_join_85 : decode cX12_join 85 = .ok (.iastore, 1) := by decide +kernel
theorem dX12_join_86 : decode cX12_join 86 = .ok (.iinc 5 1, 3) := by decide +kernel
theorem dX12_join_89 : decode cX12_join 89 = .ok (.goto (-40), 3) := by decide +kernel
theorem dX12_join_92 : decode cX12_join 92 = .ok (.aload_n 0, 1) := by decide +kernel
theorem dX12_join_93 : decode cX12_join 93 = .ok (.iload_n 3, 1) := by decide +kernel
theorem dX12_join_94 : decode cX12_join 94 = .ok (.aload_n 0, 1) := by decide +kernel
theorem dX12_join_95 : decode cX12_join 95 = .ok (.aload_n 0, 1) := by decide +kernel
theorem dX12_join_96 : decode cX12_join 96 = .ok (.getfield 29, 3) := by decide +kernel
theorem dX12_join_99 : decode cX12_join 99 = .ok (.iload 4, 2) := by decide +kernel
theorem dX12_join_101 : decode cX12_join 101 = .ok (.invokevirtual 190, 3) := by decide +kernel
theorem dX12_join_104 : decode cX12_join 104 = .ok (.invokevirtual 226, 3) := by decide +kernel
theorem dX12_join_107 : decode cX12_join 107 = .ok (.ireturn, 1) := by decide +kernel
theorem dX12_left_0 : decode cX12_left 0 = .ok (.iload_n 1, 1) := by decide +kernel
theorem dX12_left_1 : decode cX12_left 1 = .ok (.iload_n 2, 1) := by decide +kernel
theorem dX12_left_2 : decode cX12_left 2 = .ok (.iload_n 3, 1) := by decide +kernel
theorem dX12_left_3 : decode cX12_left 3 = .ok (.invokestatic 223, 3) := by decide +kernel
theorem dX12_left_6 : decode cX12_left 6 = .ok (.ifCond .ne 6, 3) := by decide +kernel
theorem dX12_left_9 : decode cX12_left 9 = .ok (.bipush (-2), 2) := by decide +kernel
theorem dX12_left_11 : decode cX12_left 11 = .ok (.ireturn, 1) := by decide +kernel
theorem dX12_left_12 : decode cX12_left 12 = .ok (.aload_n 0, 1) := by decide +kernel
theorem dX12_left_13 : decode cX12_left 13 = .ok (.iload_n 2, 1) := by decide +kernel
theorem dX12_left_14 : decode cX12_left 14 = .ok (.aload_n 0, 1) := by decide +kernel
theorem dX12_left_15 : decode cX12_left 15 = .ok (.getfield 29, 3) := by decide +kernel
theorem dX12_left_18 : decode cX12_left 18 = .ok (.invokevirtual 186, 3) := by decide +kernel
theorem dX12_left_21 : decode cX12_left 21 = .ok (.aload_n 0, 1) := by decide +kernel
theorem dX12_left_22 : decode cX12_left 22 = .ok (.aload_n 0, 1) := by decide +kernel
theorem dX12_left_23 : decode cX12_left 23 = .ok (.getfield 17, 3) := by decide +kernel
theorem dX12_left_26 : decode cX12_left 26 = .ok (.iload_n 2, 1) := by decide +kernel
theorem dX12_left_27 : decode cX12_left 27 = .ok (.iaload, 1) := by decide +kernel
theorem dX12_left_28 : decode cX12_left 28 = .ok (.invokevirtual 179, 3) := by decide +kernel
theorem dX12_left_31 : decode cX12_left 31 = .ok (.iconst 0, 1) := by decide +kernel
theorem dX12_left_32 : decode cX12_left 32 = .ok (.istore 4, 2) := by decide +kernel
theorem dX12_left_34 : decode cX12_left 34 = .ok (.iload 4, 2) := by decide +kernel
theorem dX12_left_36 : decode cX12_left 36 = .ok (.aload_n 0, 1) := by decide +kernel
theorem dX12_left_37 : decode cX12_left 37 = .ok (.getfield 17, 3) := by decide +kernel
theorem dX12_left_40 : decode cX12_left 40 = .ok (.iload_n 1, 1) := by decide +kernel
theorem dX12_left_41 : decode cX12_left 41 = .ok (.iaload, 1) := by decide +kernel
theorem dX12_left_42 : decode cX12_left 42 = .ok (.if_icmp .ge 54, 3) := by decide +kernel
theorem dX12_left_45 : decode cX12_left 45 = .ok (.aload_n 0, 1) := by decide +kernel
theorem dX12_left_46 : decode cX12_left 46 = .ok (.aload_n 0, 1) := by decide +kernel
theorem dX12_left_47 : decode cX12_left 47 = .ok (.getfield 29, 3) := by decide +kernel
theorem dX12_left_50 : decode cX12_left 50 = .ok (.aload_n 0, 1) := by decide +kernel
theorem dX12_left_51 : decode cX12_left 51 = .ok (.getfield 17, 3) := by decide +kernel
theorem dX12_left_54 : decode cX12_left 54 = .ok (.iload_n 2, 1) := by decide +kernel
theorem dX12_left_55 : decode cX12_left 55 = .ok (.iaload, 1) := by decide +kernel
theorem dX12_left_56 : decode cX12_left 56 = .ok (.aload_n 0, 1) := by decide +kernel
theorem dX12_left_57 : decode cX12_left 57 = .ok (.getfield 20, 3) := by decide +kernel
theorem dX12_left_60 : decode cX12_left 60 = .ok (.bipush 24, 2) := by decide +kernel
theorem dX12_left_62 : decode cX12_left 62 = .ok (.iload_n 1, 1) := by decide +kernel
theorem dX12_left_63 : decode cX12_left 63 = .ok (.imul, 1) := by decide +kernel
theorem dX12_left_64 : decode cX12_left 64 = .ok (.iload 4, 2) := by decide +kernel
theorem dX12_left_66 : decode cX12_left 66 = .ok (.iadd, 1) := by decide +kernel
theorem dX12_left_67 : decode cX12_left 67 = .ok (.iaload, 1) := by decide +kernel
theorem dX12_left_68 : decode cX12_left 68 = .ok (.invokevirtual 175, 3) := by decide +kernel
theorem dX12_left_71 : decode cX12_left 71 = .ok (.istore 5, 2) := by decide +kernel
theorem dX12_left_73 : decode cX12_left 73 = .ok (.iload 5, 2) := by decide +kernel
theorem dX12_left_75 : decode cX12_left 75 = .ok (.iconst (-1), 1) := by decide +kernel
theorem dX12_left_76 : decode cX12_left 76 = .ok (.if_icmp .ne 6, 3) := by decide +kernel
theorem dX12_left_79 : decode cX12_left 79 = .ok (.bipush (-4), 2) := by decide +kernel
theorem dX12_left_81 : decode cX12_left 81 = .ok (.ireturn, 1) := by decide +kernel
theorem dX12_left_82 : decode cX12_left 82 = .ok (.aload_n 0, 1) := by decide +kernel
theorem dX12_left_83 : decode cX12_left 83 = .ok (.getfield 38, 3) := by decide +kernel
theorem dX12_left_86 : decode cX12_left 86 = .ok (.iload 5, 2) := by decide +kernel
theorem dX12_left_88 : decode cX12_left 88 = .ok (.iconst 1, 1) := by decide +kernel
theorem dX12_left_89 : decode cX12_left 89 = .ok (.bastore, 1) := by decide +kernel
theorem dX12_left_90 : decode cX12_left 90 = .ok (.iinc 4 1, 3) := by decide +kernel
theorem dX12_left_93 : decode cX12_left 93 = .ok (.goto (-59), 3) := by decide +kernel
theorem dX12_left_96 : decode cX12_left 96 = .ok (.aload_n 0, 1) := by decide +kernel
theorem dX12_left_97 : decode cX12_left 97 = .ok (.iload_n 3, 1) := by decide +kernel
theorem dX12_left_98 : decode cX12_left 98 = .ok (.aload_n 0, 1) := by decide +kernel
theorem dX12_left_99 : decode cX12_left 99 = .ok (.aload_n 0, 1) := by decide +kernel
theorem dX12_left_100 : decode cX12_left 100 = .ok (.getfield 29, 3) := by decide +kernel
theorem dX12_left_103 : decode cX12_left 103 = .ok (.aload_n 0, 1) := by decide +kernel
theorem dX12_left_104 : decode cX12_left 104 = .ok (.getfield 17, 3) := by decide +kernel
theorem dX12_left_107 : decode cX12_left 107 = .ok (.iload_n 2, 1) := by decide +kernel
theorem dX12_left_108 : decode cX12_left 108 = .ok (.iaload, 1) := by decide +kernel
theorem dX12_left_109 : decode cX12_left 109 = .ok (.invokevirtual 182, 3) := by decide +kernel
theorem dX12_left_112 : decode cX12_left 112 = .ok (.invokevirtual 226, 3) := by decide +kernel
theorem dX12_left_115 : decode cX12_left 115 = .ok (.ireturn, 1) := by decide +kernel
theorem dX12_share_0 : decode cX12_share 0 = .ok (.aload_n 0, 1) := by decide +kernel
theorem dX12_share_1 : decode cX12_share 1 = .ok (.getfield 17, 3) := by decide +kernel
theorem dX12_share_4 : decode cX12_share 4 = .ok (.iload_n 1, 1) := by decide +kernel
theorem dX12_share_5 : decode cX12_share 5 = .ok (.iaload, 1) := by decide +kernel
theorem dX12_share_6 : decode cX12_share 6 = .ok (.istore_n 3, 1) := by decide +kernel
theorem dX12_share_7 : decode cX12_share 7 = .ok (.aload_n 0, 1) := by decide +kernel
theorem dX12_share_8 : decode cX12_share 8 = .ok (.getfield 17, 3) := by decide +kernel
theorem dX12_share_11 : decode cX12_share 11 = .ok (.iload_n 2, 1) := by decide +kernel
theorem dX12_share_12 : decode cX12_share 12 = .ok (.iaload, 1) := by decide +kernel
theorem dX12_share_13 : decode cX12_share 13 = .ok (.istore 4, 2) := by decide +kernel
theorem dX12_share_15 : decode cX12_share 15 = .ok (.aload_n 0, 1) := by decide +kernel
theorem dX12_share_16 : decode cX12_share 16 = .ok (.iload_n 1, 1) := by decide +kernel
theorem dX12_share_17 : decode cX12_share 17 = .ok (.aload_n 0, 1) := by decide +kernel
theorem dX12_share_18 : decode cX12_share 18 = .ok (.getfield 29, 3) := by decide +kernel
theorem dX12_share_21 : decode cX12_share 21 = .ok (.invokevirtual 186, 3) := by decide +kernel
theorem dX12_share_24 : decode cX12_share 24 = .ok (.aload_n 0, 1) := by decide +kernel
theorem dX12_share_25 : decode cX12_share 25 = .ok (.iload_n 2, 1) := by decide +kernel
theorem dX12_share_26 : decode cX12_share 26 = .ok (.aload_n 0, 1) := by decide +kernel
theorem dX12_share_27 : decode cX12_share 27 = .ok (.getfield 32, 3) := by decide +kernel
theorem dX12_share_30 : decode cX12_share 30 = .ok (.invokevirtual 186, 3) := by decide +kernel
theorem dX12_share_33 : decode cX12_share 33 = .ok (.iconst 0, 1) := by decide +kernel
theorem dX12_share_34 : decode cX12_share 34 = .ok (.istore 5, 2) := by decide +kernel
theorem dX12_share_36 : decode cX12_share 36 = .ok (.iconst 1, 1) := by decide +kernel
theorem dX12_share_37 : decode cX12_share 37 = .ok (.istore 6, 2) := by decide +kernel
theorem dX12_share_39 : decode cX12_share 39 = .ok (.iload 6, 2) := by decide +kernel
theorem dX12_share_41 : decode cX12_share 41 = .ok (.ifCond .eq 168, 3) := by decide +kernel
theorem dX12_share_44 : decode cX12_share 44 = .ok (.iconst 0, 1) := by decide +kernel
theorem dX12_share_45 : decode cX12_share 45 = .ok (.istore 6, 2) := by decide +kernel
theorem dX12_share_47 : decode cX12_share 47 = .ok (.iconst 0, 1) := by decide +kernel
theorem dX12_share_48 : decode cX12_share 48 = .ok (.istore 7, 2) := by decide +kernel
theorem dX12_share_50 : decode cX12_share 50 = .ok (.iload 7, 2) := by decide +kernel
theorem dX12_share_52 : decode cX12_share 52 = .ok (.bipush 6, 2) := by decide +kernel
theorem dX12_share_54 : decode cX12_share 54 = .ok (.if_icmp .ge 152, 3) := by decide +kernel
theorem dX12_share_57 : decode cX12_share 57 = .ok (.iload 6, 2) := by decide +kernel
theorem dX12_share_59 : decode cX12_share 59 = .ok (.ifCond .ne 147, 3) := by decide +kernel
theorem dX12_share_62 : decode cX12_share 62 = .ok (.aload_n 0, 1) := by decide +kernel
theorem dX12_share_63 : decode cX12_share 63 = .ok (.bipush 24, 2) := by decide +kernel
theorem dX12_share_65 : decode cX12_share 65 = .ok (.invokevirtual 179, 3) := by decide +kernel
theorem dX12_share_68 : decode cX12_share 68 = .ok (.aload_n 0, 1) := by decide +kernel
theorem dX12_share_69 : decode cX12_share 69 = .ok (.aload_n 0, 1) := by decide +kernel
theorem dX12_share_70 : decode cX12_share 70 = .ok (.getfield 29, 3) := by decide +kernel
theorem dX12_share_73 : decode cX12_share 73 = .ok (.iload_n 3, 1) := by decide +kernel
theorem dX12_share_74 : decode cX12_share 74 = .ok (.iload 7, 2) := by decide +kernel
theorem dX12_share_76 : decode cX12_share 76 = .ok (.invokevirtual 175, 3) := by decide +kernel
theorem dX12_share_79 : decode cX12_share 79 = .ok (.istore 8, 2) := by decide +kernel
theorem dX12_share_81 : decode cX12_share 81 = .ok (.aload_n 0, 1) := by decide +kernel
theorem dX12_share_82 : decode cX12_share 82 = .ok (.aload_n 0, 1) := by decide +kernel
theorem dX12_share_83 : decode cX12_share 83 = .ok (.getfield 32, 3) := by decide +kernel
theorem dX12_share_86 : decode cX12_share 86 = .ok (.iload 4, 2) := by decide +kernel
theorem dX12_share_88 : decode cX12_share 88 = .ok (.iload 7, 2) := by decide +kernel
theorem dX12_share_90 : decode cX12_share 90 = .ok (.invokevirtual 175, 3) := by decide +kernel
theorem dX12_share_93 : decode cX12_share 93 = .ok (.istore 9, 2) := by decide +kernel
theorem dX12_share_95 : decode cX12_share 95 = .ok (.iload 8, 2) := by decide +kernel
theorem dX12_share_97 : decode cX12_share 97 = .ok (.iconst (-1), 1) := by decide +kernel
theorem dX12_share_98 : decode cX12_share 98 = .ok (.if_icmp .eq 102, 3) := by decide +kernel
theorem dX12_share_101 : decode cX12_share 101 = .ok (.iload 9, 2) := by decide +kernel
theorem dX12_share_103 : decode cX12_share 103 = .ok (.iconst (-1), 1) := by decide +kernel
theorem dX12_share_104 : decode cX12_share 104 = .ok (.if_icmp .eq 96, 3) := by decide +kernel
theorem dX12_share_107 : decode cX12_share 107 = .ok (.iconst 1, 1) := by decide +kernel
theorem dX12_share_108 : decode cX12_share 108 = .ok (.istore 6, 2) := by decide +kernel
theorem dX12_share_110 : decode cX12_share 110 = .ok (.iload 8, 2) := by decide +kernel
theorem dX12_share_112 : decode cX12_share 112 = .ok (.istore 10, 2) := by decide +kernel
theorem dX12_share_114 : decode cX12_share 114 = .ok (.iload 10, 2) := by decide +kernel
theorem dX12_share_116 : decode cX12_share 116 = .ok (.iconst 1, 1) := by decide +kernel
theorem dX12_share_117 : decode cX12_share 117 = .ok (.iadd, 1) := by decide +kernel
theorem dX12_share_118 : decode cX12_share 118 = .ok (.iload_n 3, 1) := by decide +kernel
theorem dX12_share_119 : decode cX12_share 119 = .ok (.if_icmp .ge 25, 3) := by decide +kernel
theorem dX12_share_122 : decode cX12_share 122 = .ok (.aload_n 0, 1) := by decide +kernel
theorem dX12_share_123 : decode cX12_share 123 = .ok (.getfield 29, 3) := by decide +kernel
theorem dX12_share_126 : decode cX12_share 126 = .ok (.iload 10, 2) := by decide +kernel
theorem dX12_share_128 : decode cX12_share 128 = .ok (.aload_n 0, 1) := by decide +kernel
theorem dX12_share_129 : decode cX12_share 129 = .ok (.getfield 29, 3) := by decide +kernel
theorem dX12_share_132 : decode cX12_share 132 = .ok (.iload 10, 2) := by decide +kernel
theorem dX12_share_134 : decode cX12_share 134 = .ok (.iconst 1, 1) := by decide +kernel
theorem dX12_share_135 : decode cX12_share 135 = .ok (.iadd, 1) := by decide +kernel
theorem dX12_share_136 : decode cX12_share 136 = .ok (.iaload, 1) := by decide +kernel
theorem dX12_share_137 : decode cX12_share 137 = .ok (.iastore, 1) := by decide +kernel
theorem dX12_share_138 : decode cX12_share 138 = .ok (.iinc 10 1, 3) := by decide +kernel
theorem dX12_share_141 : decode cX12_share 141 = .ok (.goto (-27), 3) := by decide +kernel
theorem dX12_share_144 : decode cX12_share 144 = .ok (.iload 9, 2) := by decide +kernel
theorem dX12_share_146 : decode cX12_share 146 = .ok (.istore 10, 2) := by decide +kernel
theorem dX12_share_148 : decode cX12_share 148 = .ok (.iload 10, 2) := by decide +kernel
theorem dX12_share_150 : decode cX12_share 150 = .ok (.iconst 1, 1) := by decide +kernel
theorem dX12_share_151 : decode cX12_share 151 = .ok (.iadd, 1) := by decide +kernel
theorem dX12_share_152 : decode cX12_share 152 = .ok (.iload 4, 2) := by decide +kernel
theorem dX12_share_154 : decode cX12_share 154 = .ok (.if_icmp .ge 25, 3) := by decide +kernel
theorem dX12_share_157 : decode cX12_share 157 = .ok (.aload_n 0, 1) := by decide +kernel
theorem dX12_share_158 : decode cX12_share 158 = .ok (.getfield 32, 3) := by decide +kernel
theorem dX12_share_161 : decode cX12_share 161 = .ok (.iload 10, 2) := by decide +kernel
theorem dX12_share_163 : decode cX12_share 163 = .ok (.aload_n 0, 1) := by decide +kernel
theorem dX12_share_164 : decode cX12_share 164 = .ok (.getfield 32, 3) := by decide +kernel
theorem dX12_share_167 : decode cX12_share 167 = .ok (.iload 10, 2) := by decide +kernel
theorem dX12_share_169 : decode cX12_share 169 = .ok (.iconst 1, 1) := by decide +kernel
theorem dX12_share_170 : decode cX12_share 170 = .ok (.iadd, 1) := by decide +kernel
theorem dX12_share_171 : decode cX12_share 171 = .ok (.iaload, 1) := by decide +kernel
theorem dX12_share_172 : decode cX12_share 172 = .ok (.iastore, 1) := by decide +kernel
theorem dX12_share_173 : decode cX12_share 173 = .ok (.iinc 10 1, 3) := by decide +kernel
theorem dX12_share_176 : decode cX12_share 176 = .ok (.goto (-28), 3) := by decide +kernel
theorem dX12_share_179 : decode cX12_share 179 = .ok (.iinc 3 (-1), 3) := by decide +kernel
theorem dX12_share_182 : decode cX12_share 182 = .ok (.iinc 4 (-1), 3) := by decide +kernel
theorem dX12_share_185 : decode cX12_share 185 = .ok (.aload_n 0, 1) := by decide +kernel
theorem dX12_share_186 : decode cX12_share 186 = .ok (.getfield 29, 3) := by decide +kernel
theorem dX12_share_189 : decode cX12_share 189 = .ok (.bipush 24, 2) := by decide +kernel
theorem dX12_share_191 : decode cX12_share 191 = .ok (.iload 5, 2) := by decide +kernel
theorem dX12_share_193 : decode cX12_share 193 = .ok (.iadd, 1) := by decide +kernel
theorem dX12_share_194 : decode cX12_share 194 = .ok (.iload 7, 2) := by decide +kernel
theorem dX12_share_196 : decode cX12_share 196 = .ok (.iastore, 1) := by decide +kernel
theorem dX12_share_197 : decode cX12_share 197 = .ok (.iinc 5 1, 3) := by decide +kernel
theorem dX12_share_200 : decode cX12_share 200 = .ok (.iinc 7 1, 3) := by decide +kernel
theorem dX12_share_203 : decode cX12_share 203 = .ok (.goto (-153), 3) := by decide +kernel
theorem dX12_share_206 : decode cX12_share 206 = .ok (.goto (-167), 3) := by decide +kernel
theorem dX12_share_209 : decode cX12_share 209 = .ok (.iload 5, 2) := by decide +kernel
theorem dX12_share_211 : decode cX12_share 211 = .ok (.ireturn, 1) := by decide +kernel
theorem dX12_shared_0 : decode cX12_shared 0 = .ok (.iload_n 1, 1) := by decide +kernel
theorem dX12_shared_1 : decode cX12_shared 1 = .ok (.iload_n 2, 1) := by decide +kernel
theorem dX12_shared_2 : decode cX12_shared 2 = .ok (.iload_n 3, 1) := by decide +kernel
theorem dX12_shared_3 : decode cX12_shared 3 = .ok (.invokestatic 223, 3) := by decide +kernel
theorem dX12_shared_6 : decode cX12_shared 6 = .ok (.ifCond .ne 6, 3) := by decide +kernel
theorem dX12_shared_9 : decode cX12_shared 9 = .ok (.bipush (-2), 2) := by decide +kernel
theorem dX12_shared_11 : decode cX12_shared 11 = .ok (.ireturn, 1) := by decide +kernel
theorem dX12_shared_12 : decode cX12_shared 12 = .ok (.aload_n 0, 1) := by decide +kernel
theorem dX12_shared_13 : decode cX12_shared 13 = .ok (.iload_n 1, 1) := by decide +kernel
theorem dX12_shared_14 : decode cX12_shared 14 = .ok (.iload_n 2, 1) := by decide +kernel
theorem dX12_shared_15 : decode cX12_shared 15 = .ok (.invokevirtual 229, 3) := by decide +kernel
theorem dX12_shared_18 : decode cX12_shared 18 = .ok (.istore 4, 2) := by decide +kernel
theorem dX12_shared_20 : decode cX12_shared 20 = .ok (.iconst 0, 1) := by decide +kernel
theorem dX12_shared_21 : decode cX12_shared 21 = .ok (.istore 5, 2) := by decide +kernel
theorem dX12_shared_23 : decode cX12_shared 23 = .ok (.iload 5, 2) := by decide +kernel
theorem dX12_shared_25 : decode cX12_shared 25 = .ok (.iload 4, 2) := by decide +kernel
theorem dX12_shared_27 : decode cX12_shared 27 = .ok (.if_icmp .ge 26, 3) := by decide +kernel
theorem dX12_shared_30 : decode cX12_shared 30 = .ok (.aload_n 0, 1) := by decide +kernel
theorem dX12_shared_31 : decode cX12_shared 31 = .ok (.getfield 32, 3) := by decide +kernel
theorem dX12_shared_34 : decode cX12_shared 34 = .ok (.iload 5, 2) := by decide +kernel
theorem dX12_shared_36 : decode cX12_shared 36 = .ok (.aload_n 0, 1) := by decide +kernel
theorem dX12_shared_37 : decode cX12_shared 37 = .ok (.getfield 29, 3) := by decide +kernel
theorem dX12_shared_40 : decode cX12_shared 40 = .ok (.bipush 24, 2) := by decide +kernel
theorem dX12_shared_42 : decode cX12_shared 42 = .ok (.iload 5, 2) := by decide +kernel
theorem dX12_shared_44 : decode cX12_shared 44 = .ok (.iadd, 1) := by decide +kernel
theorem dX12_shared_45 : decode cX12_shared 45 = .ok (.iaload, 1) := by decide +kernel
theorem dX12_shared_46 : decode cX12_shared 46 = .ok (.iastore, 1) := by decide +kernel
theorem dX12_shared_47 : decode cX12_shared 47 = .ok (.iinc 5 1, 3) := by decide +kernel
theorem dX12_shared_50 : decode cX12_shared 50 = .ok (.goto (-27), 3) := by decide +kernel
theorem dX12_shared_53 : decode cX12_shared 53 = .ok (.aload_n 0, 1) := by decide +kernel
theorem dX12_shared_54 : decode cX12_shared 54 = .ok (.iload_n 3, 1) := by decide +kernel
theorem dX12_shared_55 : decode cX12_shared 55 = .ok (.aload_n 0, 1) := by decide +kernel
theorem dX12_shared_56 : decode cX12_shared 56 = .ok (.aload_n 0, 1) := by decide +kernel
theorem dX12_shared_57 : decode cX12_shared 57 = .ok (.getfield 32, 3) := by decide +kernel
theorem dX12_shared_60 : decode cX12_shared 60 = .ok (.iload 4, 2) := by decide +kernel
theorem dX12_shared_62 : decode cX12_shared 62 = .ok (.invokevirtual 190, 3) := by decide +kernel
theorem dX12_shared_65 : decode cX12_shared 65 = .ok (.invokevirtual 226, 3) := by decide +kernel
theorem dX12_shared_68 : decode cX12_shared 68 = .ok (.ireturn, 1) := by decide +kernel
theorem dX12_both_0 : decode cX12_both 0 = .ok (.iload_n 1, 1) := by decide +kernel
theorem dX12_both_1 : decode cX12_both 1 = .ok (.iload_n 2, 1) := by decide +kernel
theorem dX12_both_2 : decode cX12_both 2 = .ok (.iload_n 3, 1) := by decide +kernel
theorem dX12_both_3 : decode cX12_both 3 = .ok (.invokestatic 223, 3) := by decide +kernel
theorem dX12_both_6 : decode cX12_both 6 = .ok (.ifCond .ne 6, 3) := by decide +kernel
theorem dX12_both_9 : decode cX12_both 9 = .ok (.bipush (-2), 2) := by decide +kernel
theorem dX12_both_11 : decode cX12_both 11 = .ok (.ireturn, 1) := by decide +kernel
theorem dX12_both_12 : decode cX12_both 12 = .ok (.aload_n 0, 1) := by decide +kernel
theorem dX12_both_13 : decode cX12_both 13 = .ok (.iload_n 1, 1) := by decide +kernel
theorem dX12_both_14 : decode cX12_both 14 = .ok (.iload_n 2, 1) := by decide +kernel
theorem dX12_both_15 : decode cX12_both 15 = .ok (.invokevirtual 229, 3) := by decide +kernel
theorem dX12_both_18 : decode cX12_both 18 = .ok (.istore 4, 2) := by decide +kernel
theorem dX12_both_20 : decode cX12_both 20 = .ok (.aload_n 0, 1) := by decide +kernel
theorem dX12_both_21 : decode cX12_both 21 = .ok (.getfield 17, 3) := by decide +kernel
theorem dX12_both_24 : decode cX12_both 24 = .ok (.iload_n 1, 1) := by decide +kernel
theorem dX12_both_25 : decode cX12_both 25 = .ok (.iaload, 1) := by decide +kernel
theorem dX12_both_26 : decode cX12_both 26 = .ok (.iload 4, 2) := by decide +kernel
theorem dX12_both_28 : decode cX12_both 28 = .ok (.isub, 1) := by decide +kernel
theorem dX12_both_29 : decode cX12_both 29 = .ok (.istore 5, 2) := by decide +kernel
theorem dX12_both_31 : decode cX12_both 31 = .ok (.aload_n 0, 1) := by decide +kernel
theorem dX12_both_32 : decode cX12_both 32 = .ok (.getfield 17, 3) := by decide +kernel
theorem dX12_both_35 : decode cX12_both 35 = .ok (.iload_n 2, 1) := by decide +kernel
theorem dX12_both_36 : decode cX12_both 36 = .ok (.iaload, 1) := by decide +kernel
theorem dX12_both_37 : decode cX12_both 37 = .ok (.iload 4, 2) := by decide +kernel
theorem dX12_both_39 : decode cX12_both 39 = .ok (.isub, 1) := by decide +kernel
theorem dX12_both_40 : decode cX12_both 40 = .ok (.istore 6, 2) := by decide +kernel
theorem dX12_both_42 : decode cX12_both 42 = .ok (.iconst 0, 1) := by decide +kernel
theorem dX12_both_43 : decode cX12_both 43 = .ok (.istore 7, 2) := by decide +kernel
theorem dX12_both_45 : decode cX12_both 45 = .ok (.iload 7, 2) := by decide +kernel
theorem dX12_both_47 : decode cX12_both 47 = .ok (.iload 5, 2) := by decide +kernel
theorem dX12_both_49 : decode cX12_both 49 = .ok (.if_icmp .ge 49, 3) := by decide +kernel
theorem dX12_both_52 : decode cX12_both 52 = .ok (.iconst 0, 1) := by decide +kernel
theorem dX12_both_53 : decode cX12_both 53 = .ok (.istore 8, 2) := by decide +kernel
theorem dX12_both_55 : decode cX12_both 55 = .ok (.iload 8, 2) := by decide +kernel
theorem dX12_both_57 : decode cX12_both 57 = .ok (.iload 6, 2) := by decide +kernel
theorem dX12_both_59 : decode cX12_both 59 = .ok (.if_icmp .ge 33, 3) := by decide +kernel
theorem dX12_both_62 : decode cX12_both 62 = .ok (.aload_n 0, 1) := by decide +kernel
theorem dX12_both_63 : decode cX12_both 63 = .ok (.aload_n 0, 1) := by decide +kernel
theorem dX12_both_64 : decode cX12_both 64 = .ok (.getfield 29, 3) := by decide +kernel
theorem dX12_both_67 : decode cX12_both 67 = .ok (.iload 7, 2) := by decide +kernel
theorem dX12_both_69 : decode cX12_both 69 = .ok (.iaload, 1) := by decide +kernel
theorem dX12_both_70 : decode cX12_both 70 = .ok (.aload_n 0, 1) := by decide +kernel
theorem dX12_both_71 : decode cX12_both 71 = .ok (.getfield 32, 3) := by decide +kernel
theorem dX12_both_74 : decode cX12_both 74 = .ok (.iload 8, 2) := by decide +kernel
theorem dX12_both_76 : decode cX12_both 76 = .ok (.iaload, 1) := by decide +kernel
theorem dX12_both_77 : decode cX12_both 77 = .ok (.invokevirtual 168, 3) := by decide +kernel
theorem dX12_both_80 : decode cX12_both 80 = .ok (.ifCond .ne 6, 3) := by decide +kernel
theorem dX12_both_83 : decode cX12_both 83 = .ok (.bipush (-4), 2) := by decide +kernel
theorem dX12_both_85 : decode cX12_both 85 = .ok (.ireturn, 1) := by decide +kernel
theorem dX12_both_86 : decode cX12_both 86 = .ok (.iinc 8 1, 3) := by decide +kernel
theorem dX12_both_89 : decode cX12_both 89 = .ok (.goto (-34), 3) := by decide +kernel
theorem dX12_both_92 : decode cX12_both 92 = .ok (.iinc 7 1, 3) := by decide +kernel
theorem dX12_both_95 : decode cX12_both 95 = .ok (.goto (-50), 3) := by decide +kernel
theorem dX12_both_98 : decode cX12_both 98 = .ok (.iload 4, 2) := by decide +kernel
theorem dX12_both_100 : decode cX12_both 100 = .ok (.iload 5, 2) := by decide +kernel
theorem dX12_both_102 : decode cX12_both 102 = .ok (.iadd, 1) := by decide +kernel
theorem dX12_both_103 : decode cX12_both 103 = .ok (.iload 6, 2) := by decide +kernel
theorem dX12_both_105 : decode cX12_both 105 = .ok (.iadd, 1) := by decide +kernel
theorem dX12_both_106 : decode cX12_both 106 = .ok (.bipush 24, 2) := by decide +kernel
theorem dX12_both_108 : decode cX12_both 108 = .ok (.if_icmp .le 6, 3) := by decide +kernel
theorem dX12_both_111 : decode cX12_both 111 = .ok (.bipush (-5), 2) := by decide +kernel
theorem dX12_both_113 : decode cX12_both 113 = .ok (.ireturn, 1) := by decide +kernel
theorem dX12_both_114 : decode cX12_both 114 = .ok (.iconst 0, 1) := by decide +kernel
theorem dX12_both_115 : decode cX12_both 115 = .ok (.istore 7, 2) := by decide +kernel
theorem dX12_both_117 : decode cX12_both 117 = .ok (.iload 7, 2) := by decide +kernel
theorem dX12_both_119 : decode cX12_both 119 = .ok (.iload 5, 2) := by decide +kernel
theorem dX12_both_121 : decode cX12_both 121 = .ok (.if_icmp .ge 29, 3) := by decide +kernel
theorem dX12_both_124 : decode cX12_both 124 = .ok (.aload_n 0, 1) := by decide +kernel
theorem dX12_both_125 : decode cX12_both 125 = .ok (.getfield 29, 3) := by decide +kernel
theorem dX12_both_128 : decode cX12_both 128 = .ok (.bipush 24, 2) := by decide +kernel
theorem dX12_both_130 : decode cX12_both 130 = .ok (.iload 4, 2) := by decide +kernel
theorem dX12_both_132 : decode cX12_both 132 = .ok (.iadd, 1) := by decide +kernel
theorem dX12_both_133 : decode cX12_both 133 = .ok (.iload 7, 2) := by decide +kernel
theorem dX12_both_135 : decode cX12_both 135 = .ok (.iadd, 1) := by decide +kernel
theorem dX12_both_136 : decode cX12_both 136 = .ok (.aload_n 0, 1) := by decide +kernel
theorem dX12_both_137 : decode cX12_both 137 = .ok (.getfield 29, 3) := by decide +kernel
theorem dX12_both_140 : decode cX12_both 140 = .ok (.iload 7, 2) := by decide +kernel
theorem dX12_both_142 : decode cX12_both 142 = .ok (.iaload, 1) := by decide +kernel
theorem dX12_both_143 : decode cX12_both 143 = .ok (.iastore, 1) := by decide +kernel
theorem dX12_both_144 : decode cX12_both 144 = .ok (.iinc 7 1, 3) := by decide +kernel
theorem dX12_both_147 : decode cX12_both 147 = .ok (.goto (-30), 3) := by decide +kernel
theorem dX12_both_150 : decode cX12_both 150 = .ok (.iconst 0, 1) := by decide +kernel
theorem dX12_both_151 : decode cX12_both 151 = .ok (.istore 7, 2) := by decide +kernel
theorem dX12_both_153 : decode cX12_both 153 = .ok (.iload 7, 2) := by decide +kernel
theorem dX12_both_155 : decode cX12_both 155 = .ok (.iload 4, 2) := by decide +kernel
theorem dX12_both_157 : decode cX12_both 157 = .ok (.iload 5, 2) := by decide +kernel
theorem dX12_both_159 : decode cX12_both 159 = .ok (.iadd, 1) := by decide +kernel
theorem dX12_both_160 : decode cX12_both 160 = .ok (.if_icmp .ge 26, 3) := by decide +kernel
theorem dX12_both_163 : decode cX12_both 163 = .ok (.aload_n 0, 1) := by decide +kernel
theorem dX12_both_164 : decode cX12_both 164 = .ok (.getfield 29, 3) := by decide +kernel
theorem dX12_both_167 : decode cX12_both 167 = .ok (.iload 7, 2) := by decide +kernel
theorem dX12_both_169 : decode cX12_both 169 = .ok (.aload_n 0, 1) := by decide +kernel
theorem dX12_both_170 : decode cX12_both 170 = .ok (.getfield 29, 3) := by decide +kernel
theorem dX12_both_173 : decode cX12_both 173 = .ok (.bipush 24, 2) := by decide +kernel
theorem dX12_both_175 : decode cX12_both 175 = .ok (.iload 7, 2) := by decide +kernel
theorem dX12_both_177 : decode cX12_both 177 = .ok (.iadd, 1) := by decide +kernel
theorem dX12_both_178 : decode cX12_both 178 = .ok (.iaload, 1) := by decide +kernel
theorem dX12_both_179 : decode cX12_both 179 = .ok (.iastore, 1) := by decide +kernel
theorem dX12_both_180 : decode cX12_both 180 = .ok (.iinc 7 1, 3) := by decide +kernel
theorem dX12_both_183 : decode cX12_both 183 = .ok (.goto (-30), 3) := by decide +kernel
theorem dX12_both_186 : decode cX12_both 186 = .ok (.iconst 0, 1) := by decide +kernel
theorem dX12_both_187 : decode cX12_both 187 = .ok (.istore 7, 2) := by decide +kernel
theorem dX12_both_189 : decode cX12_both 189 = .ok (.iload 7, 2) := by decide +kernel
theorem dX12_both_191 : decode cX12_both 191 = .ok (.iload 6, 2) := by decide +kernel
theorem dX12_both_193 : decode cX12_both 193 = .ok (.if_icmp .ge 29, 3) := by decide +kernel
theorem dX12_both_196 : decode cX12_both 196 = .ok (.aload_n 0, 1) := by decide +kernel
theorem dX12_both_197 : decode cX12_both 197 = .ok (.getfield 29, 3) := by decide +kernel
theorem dX12_both_200 : decode cX12_both 200 = .ok (.iload 4, 2) := by decide +kernel
theorem dX12_both_202 : decode cX12_both 202 = .ok (.iload 5, 2) := by decide +kernel
theorem dX12_both_204 : decode cX12_both 204 = .ok (.iadd, 1) := by decide +kernel
theorem dX12_both_205 : decode cX12_both 205 = .ok (.iload 7, 2) := by decide +kernel
theorem dX12_both_207 : decode cX12_both 207 = .ok (.iadd, 1) := by decide +kernel
theorem dX12_both_208 : decode cX12_both 208 = .ok (.aload_n 0, 1) := by decide +kernel
theorem dX12_both_209 : decode cX12_both 209 = .ok (.getfield 32, 3) := by decide +kernel
theorem dX12_both_212 : decode cX12_both 212 = .ok (.iload 7, 2) := by decide +kernel
theorem dX12_both_214 : decode cX12_both 214 = .ok (.iaload, 1) := by decide +kernel
theorem dX12_both_215 : decode cX12_both 215 = .ok (.iastore, 1) := by decide +kernel
theorem dX12_both_216 : decode cX12_both 216 = .ok (.iinc 7 1, 3) := by decide +kernel
theorem dX12_both_219 : decode cX12_both 219 = .ok (.goto (-30), 3) := by decide +kernel
theorem dX12_both_222 : decode cX12_both 222 = .ok (.aload_n 0, 1) := by decide +kernel
theorem dX12_both_223 : decode cX12_both 223 = .ok (.iload_n 3, 1) := by decide +kernel
theorem dX12_both_224 : decode cX12_both 224 = .ok (.aload_n 0, 1) := by decide +kernel
theorem dX12_both_225 : decode cX12_both 225 = .ok (.aload_n 0, 1) := by decide +kernel
theorem dX12_both_226 : decode cX12_both 226 = .ok (.getfield 29, 3) := by decide +kernel
theorem dX12_both_229 : decode cX12_both 229 = .ok (.iload 4, 2) := by decide +kernel
theorem dX12_both_231 : decode cX12_both 231 = .ok (.iload 5, 2) := by decide +kernel
theorem dX12_both_233 : decode cX12_both 233 = .ok (.iadd, 1) := by decide +kernel
theorem dX12_both_234 : decode cX12_both 234 = .ok (.iload 6, 2) := by decide +kernel
theorem dX12_both_236 : decode cX12_both 236 = .ok (.iadd, 1) := by decide +kernel
theorem dX12_both_237 : decode cX12_both 237 = .ok (.invokevirtual 190, 3) := by decide +kernel
theorem dX12_both_240 : decode cX12_both 240 = .ok (.invokevirtual 226, 3) := by decide +kernel
theorem dX12_both_243 : decode cX12_both 243 = .ok (.ireturn, 1) := by decide +kernel
theorem dX12_mirror_0 : decode cX12_mirror 0 = .ok (.iload_n 1, 1) := by decide +kernel
theorem dX12_mirror_1 : decode cX12_mirror 1 = .ok (.invokestatic 172, 3) := by decide +kernel
theorem dX12_mirror_4 : decode cX12_mirror 4 = .ok (.ifCond .ne 6, 3) := by decide +kernel
theorem dX12_mirror_7 : decode cX12_mirror 7 = .ok (.bipush (-2), 2) := by decide +kernel
theorem dX12_mirror_9 : decode cX12_mirror 9 = .ok (.ireturn, 1) := by decide +kernel
theorem dX12_mirror_10 : decode cX12_mirror 10 = .ok (.aload_n 0, 1) := by decide +kernel
theorem dX12_mirror_11 : decode cX12_mirror 11 = .ok (.iload_n 1, 1) := by decide +kernel
theorem dX12_mirror_12 : decode cX12_mirror 12 = .ok (.aload_n 0, 1) := by decide +kernel
theorem dX12_mirror_13 : decode cX12_mirror 13 = .ok (.getfield 29, 3) := by decide +kernel
theorem dX12_mirror_16 : decode cX12_mirror 16 = .ok (.invokevirtual 186, 3) := by decide +kernel
theorem dX12_mirror_19 : decode cX12_mirror 19 = .ok (.iconst 0, 1) := by decide +kernel
theorem dX12_mirror_20 : decode cX12_mirror 20 = .ok (.istore_n 2, 1) := by decide +kernel
theorem dX12_mirror_21 : decode cX12_mirror 21 = .ok (.iload_n 2, 1) := by decide +kernel
theorem dX12_mirror_22 : decode cX12_mirror 22 = .ok (.aload_n 0, 1) := by decide +kernel
theorem dX12_mirror_23 : decode cX12_mirror 23 = .ok (.getfield 17, 3) := by decide +kernel
theorem dX12_mirror_26 : decode cX12_mirror 26 = .ok (.iload_n 1, 1) := by decide +kernel
theorem dX12_mirror_27 : decode cX12_mirror 27 = .ok (.iaload, 1) := by decide +kernel
theorem dX12_mirror_28 : decode cX12_mirror 28 = .ok (.if_icmp .ge 35, 3) := by decide +kernel
theorem dX12_mirror_31 : decode cX12_mirror 31 = .ok (.aload_n 0, 1) := by decide +kernel
theorem dX12_mirror_32 : decode cX12_mirror 32 = .ok (.getfield 20, 3) := by decide +kernel
theorem dX12_mirror_35 : decode cX12_mirror 35 = .ok (.bipush 24, 2) := by decide +kernel
theorem dX12_mirror_37 : decode cX12_mirror 37 = .ok (.iload_n 1, 1) := by decide +kernel
theorem dX12_mirror_38 : decode cX12_mirror 38 = .ok (.imul, 1) := by decide +kernel
theorem dX12_mirror_39 : decode cX12_mirror 39 = .ok (.iload_n 2, 1) := by decide +kernel
theorem dX12_mirror_40 : decode cX12_mirror 40 = .ok (.iadd, 1) := by decide +kernel
theorem dX12_mirror_41 : decode cX12_mirror 41 = .ok (.aload_n 0, 1) := by decide +kernel
theorem dX12_mirror_42 : decode cX12_mirror 42 = .ok (.getfield 29, 3) := by decide +kernel
theorem dX12_mirror_45 : decode cX12_mirror 45 = .ok (.aload_n 0, 1) := by decide +kernel
theorem dX12_mirror_46 : decode cX12_mirror 46 = .ok (.getfield 17, 3) := by decide +kernel
theorem dX12_mirror_49 : decode cX12_mirror 49 = .ok (.iload_n 1, 1) := by decide +kernel
theorem dX12_mirror_50 : decode cX12_mirror 50 = .ok (.iaload, 1) := by decide +kernel
theorem dX12_mirror_51 : decode cX12_mirror 51 = .ok (.iconst 1, 1) := by decide +kernel
theorem dX12_mirror_52 : decode cX12_mirror 52 = .ok (.isub, 1) := by decide +kernel
theorem dX12_mirror_53 : decode cX12_mirror 53 = .ok (.iload_n 2, 1) := by decide +kernel
theorem dX12_mirror_54 : decode cX12_mirror 54 = .ok (.isub, 1) := by decide +kernel
theorem dX12_mirror_55 : decode cX12_mirror 55 = .ok (.iaload, 1) := by decide +kernel
theorem dX12_mirror_56 : decode cX12_mirror 56 = .ok (.iastore, 1) := by decide +kernel
theorem dX12_mirror_57 : decode cX12_mirror 57 = .ok (.iinc 2 1, 3) := by decide +kernel
theorem dX12_mirror_60 : decode cX12_mirror 60 = .ok (.goto (-39), 3) := by decide +kernel
theorem dX12_mirror_63 : decode cX12_mirror 63 = .ok (.aload_n 0, 1) := by decide +kernel
theorem dX12_mirror_64 : decode cX12_mirror 64 = .ok (.getfield 17, 3) := by decide +kernel
theorem dX12_mirror_67 : decode cX12_mirror 67 = .ok (.iload_n 1, 1) := by decide +kernel
theorem dX12_mirror_68 : decode cX12_mirror 68 = .ok (.iaload, 1) := by decide +kernel
theorem dX12_mirror_69 : decode cX12_mirror 69 = .ok (.ireturn, 1) := by decide +kernel
theorem dX12_part_0 : decode cX12_part 0 = .ok (.iload_n 1, 1) := by decide +kernel
theorem dX12_part_1 : decode cX12_part 1 = .ok (.invokestatic 172, 3) := by decide +kernel
theorem dX12_part_4 : decode cX12_part 4 = .ok (.ifCond .ne 6, 3) := by decide +kernel
theorem dX12_part_7 : decode cX12_part 7 = .ok (.bipush (-2), 2) := by decide +kernel
theorem dX12_part_9 : decode cX12_part 9 = .ok (.ireturn, 1) := by decide +kernel
theorem dX12_part_10 : decode cX12_part 10 = .ok (.iload_n 2, 1) := by decide +kernel
theorem dX12_part_11 : decode cX12_part 11 = .ok (.iconst (-1), 1) := by decide +kernel
theorem dX12_part_12 : decode cX12_part 12 = .ok (.if_icmp .ge 6, 3) := by decide +kernel
theorem dX12_part_15 : decode cX12_part 15 = .ok (.bipush (-3), 2) := by decide +kernel
theorem dX12_part_17 : decode cX12_part 17 = .ok (.ireturn, 1) := by decide +kernel
theorem dX12_part_18 : decode cX12_part 18 = .ok (.iconst 0, 1) := by decide +kernel
theorem dX12_part_19 : decode cX12_part 19 = .ok (.istore_n 3, 1) := by decide +kernel
theorem dX12_part_20 : decode cX12_part 20 = .ok (.iconst 0, 1) := by decide +kernel
theorem dX12_part_21 : decode cX12_part 21 = .ok (.istore 4, 2) := by decide +kernel
theorem dX12_part_23 : decode cX12_part 23 = .ok (.iload 4, 2) := by decide +kernel
theorem dX12_part_25 : decode cX12_part 25 = .ok (.aload_n 0, 1) := by decide +kernel
theorem dX12_part_26 : decode cX12_part 26 = .ok (.getfield 17, 3) := by decide +kernel
theorem dX12_part_29 : decode cX12_part 29 = .ok (.iload_n 1, 1) := by decide +kernel
theorem dX12_part_30 : decode cX12_part 30 = .ok (.iaload, 1) := by decide +kernel
theorem dX12_part_31 : decode cX12_part 31 = .ok (.if_icmp .ge 26, 3) := by decide +kernel
theorem dX12_part_34 : decode cX12_part 34 = .ok (.iload_n 3, 1) := by decide +kernel
theorem dX12_part_35 : decode cX12_part 35 = .ok (.iconst 1, 1) := by decide +kernel
theorem dX12_part_36 : decode cX12_part 36 = .ok (.aload_n 0, 1) := by decide +kernel
theorem dX12_part_37 : decode cX12_part 37 = .ok (.getfield 20, 3) := by decide +kernel
theorem dX12_part_40 : decode cX12_part 40 = .ok (.bipush 24, 2) := by decide +kernel
theorem dX12_part_42 : decode cX12_part 42 = .ok (.iload_n 1, 1) := by decide +kernel
theorem dX12_part_43 : decode cX12_part 43 = .ok (.imul, 1) := by decide +kernel
theorem dX12_part_44 : decode cX12_part 44 = .ok (.iload 4, 2) := by decide +kernel
theorem dX12_part_46 : decode cX12_part 46 = .ok (.iadd, 1) := by decide +kernel
theorem dX12_part_47 : decode cX12_part 47 = .ok (.iaload, 1) := by decide +kernel
theorem dX12_part_48 : decode cX12_part 48 = .ok (.ishl, 1) := by decide +kernel
theorem dX12_part_49 : decode cX12_part 49 = .ok (.ior, 1) := by decide +kernel
theorem dX12_part_50 : decode cX12_part 50 = .ok (.istore_n 3, 1) := by decide +kernel
theorem dX12_part_51 : decode cX12_part 51 = .ok (.iinc 4 1, 3) := by decide +kernel
theorem dX12_part_54 : decode cX12_part 54 = .ok (.goto (-31), 3) := by decide +kernel
theorem dX12_part_57 : decode cX12_part 57 = .ok (.iconst 0, 1) := by decide +kernel
theorem dX12_part_58 : decode cX12_part 58 = .ok (.istore 4, 2) := by decide +kernel
theorem dX12_part_60 : decode cX12_part 60 = .ok (.iconst 0, 1) := by decide +kernel
theorem dX12_part_61 : decode cX12_part 61 = .ok (.istore 5, 2) := by decide +kernel
theorem dX12_part_63 : decode cX12_part 63 = .ok (.iload 5, 2) := by decide +kernel
theorem dX12_part_65 : decode cX12_part 65 = .ok (.bipush 6, 2) := by decide +kernel
theorem dX12_part_67 : decode cX12_part 67 = .ok (.if_icmp .ge 149, 3) := by decide +kernel
theorem dX12_part_70 : decode cX12_part 70 = .ok (.iload_n 3, 1) := by decide +kernel
theorem dX12_part_71 : decode cX12_part 71 = .ok (.iload 5, 2) := by decide +kernel
theorem dX12_part_73 : decode cX12_part 73 = .ok (.ishr, 1) := by decide +kernel
theorem dX12_part_74 : decode cX12_part 74 = .ok (.iconst 1, 1) := by decide +kernel
theorem dX12_part_75 : decode cX12_part 75 = .ok (.iand, 1) := by decide +kernel
theorem dX12_part_76 : decode cX12_part 76 = .ok (.iconst 1, 1) := by decide +kernel
theorem dX12_part_77 : decode cX12_part 77 = .ok (.if_icmp .ne 133, 3) := by decide +kernel
theorem dX12_part_80 : decode cX12_part 80 = .ok (.iconst 1, 1) := by decide +kernel
theorem dX12_part_81 : decode cX12_part 81 = .ok (.iload 5, 2) := by decide +kernel
theorem dX12_part_83 : decode cX12_part 83 = .ok (.ishl, 1) := by decide +kernel
theorem dX12_part_84 : decode cX12_part 84 = .ok (.istore 6, 2) := by decide +kernel
theorem dX12_part_86 : decode cX12_part 86 = .ok (.iconst 0, 1) := by decide +kernel
theorem dX12_part_87 : decode cX12_part 87 = .ok (.istore 7, 2) := by decide +kernel
theorem dX12_part_89 : decode cX12_part 89 = .ok (.iload 7, 2) := by decide +kernel
theorem dX12_part_91 : decode cX12_part 91 = .ok (.bipush 6, 2) := by decide +kernel
theorem dX12_part_93 : decode cX12_part 93 = .ok (.if_icmp .ge 98, 3) := by decide +kernel
theorem dX12_part_96 : decode cX12_part 96 = .ok (.iconst 0, 1) := by decide +kernel
theorem dX12_part_97 : decode cX12_part 97 = .ok (.istore 8, 2) := by decide +kernel
theorem dX12_part_99 : decode cX12_part 99 = .ok (.iload 8, 2) := by decide +kernel
theorem dX12_part_101 : decode cX12_part 101 = .ok (.bipush 6, 2) := by decide +kernel
theorem dX12_part_103 : decode cX12_part 103 = .ok (.if_icmp .ge 82, 3) := by decide +kernel
theorem dX12_part_106 : decode cX12_part 106 = .ok (.iconst 0, 1) := by decide +kernel
theorem dX12_part_107 : decode cX12_part 107 = .ok (.istore 9, 2) := by decide +kernel
theorem dX12_part_109 : decode cX12_part 109 = .ok (.iload 9, 2) := by decide +kernel
theorem dX12_part_111 : decode cX12_part 111 = .ok (.bipush 6, 2) := by decide +kernel
theorem dX12_part_113 : decode cX12_part 113 = .ok (.if_icmp .ge 66, 3) := by decide +kernel
theorem dX12_part_116 : decode cX12_part 116 = .ok (.iload 6, 2) := by decide +kernel
theorem dX12_part_118 : decode cX12_part 118 = .ok (.iload 8, 2) := by decide +kernel
theorem dX12_part_120 : decode cX12_part 120 = .ok (.ishr, 1) := by decide +kernel
theorem dX12_part_121 : decode cX12_part 121 = .ok (.iconst 1, 1) := by decide +kernel
theorem dX12_part_122 : decode cX12_part 122 = .ok (.iand, 1) := by decide +kernel
theorem dX12_part_123 : decode cX12_part 123 = .ok (.iconst 1, 1) := by decide +kernel
theorem dX12_part_124 : decode cX12_part 124 = .ok (.if_icmp .ne 28, 3) := by decide +kernel
theorem dX12_part_127 : decode cX12_part 127 = .ok (.iload_n 3, 1) := by decide +kernel
theorem dX12_part_128 : decode cX12_part 128 = .ok (.iload 9, 2) := by decide +kernel
theorem dX12_part_130 : decode cX12_part 130 = .ok (.ishr, 1) := by decide +kernel
theorem dX12_part_131 : decode cX12_part 131 = .ok (.iconst 1, 1) := by decide +kernel
theorem dX12_part_132 : decode cX12_part 132 = .ok (.iand, 1) := by decide +kernel
theorem dX12_part_133 : decode cX12_part 133 = .ok (.iconst 1, 1) := by decide +kernel
theorem dX12_part_134 : decode cX12_part 134 = .ok (.if_icmp .ne 18, 3) := by decide +kernel
theorem dX12_part_137 : decode cX12_part 137 = .ok (.aload_n 0, 1) := by decide +kernel
theorem dX12_part_138 : decode cX12_part 138 = .ok (.iload 8, 2) := by decide +kernel
theorem dX12_part_140 : decode cX12_part 140 = .ok (.iload 9, 2) := by decide +kernel
theorem dX12_part_142 : decode cX12_part 142 = .ok (.invokevirtual 168, 3) := by decide +kernel
theorem dX12_part_145 : decode cX12_part 145 = .ok (.ifCond .ne 7, 3) := by decide +kernel
theorem dX12_part_148 : decode cX12_part 148 = .ok (.iconst 1, 1) := by decide +kernel
theorem dX12_part_149 : decode cX12_part 149 = .ok (.goto 4, 3) := by decide +kernel
theorem dX12_part_152 : decode cX12_part 152 = .ok (.iconst 0, 1) := by decide +kernel
theorem dX12_part_153 : decode cX12_part 153 = .ok (.istore 10, 2) := by decide +kernel
theorem dX12_part_155 : decode cX12_part 155 = .ok (.iload 6, 2) := by decide +kernel
theorem dX12_part_157 : decode cX12_part 157 = .ok (.iload 10, 2) := by decide +kernel
theorem dX12_part_159 : decode cX12_part 159 = .ok (.ifCond .eq 10, 3) := by decide +kernel
theorem dX12_part_162 : decode cX12_part 162 = .ok (.iconst 1, 1) := by decide +kernel
theorem dX12_part_163 : decode cX12_part 163 = .ok (.iload 9, 2) := by decide +kernel
theorem dX12_part_165 : decode cX12_part 165 = .ok (.ishl, 1) := by decide +kernel
theorem dX12_part_166 : decode cX12_part 166 = .ok (.goto 4, 3) := by decide +kernel
theorem dX12_part_169 : decode cX12_part 169 = .ok (.iconst 0, 1) := by decide +kernel
theorem dX12_part_170 : decode cX12_part 170 = .ok (.ior, 1) := by decide +kernel
theorem dX12_part_171 : decode cX12_part 171 = .ok (.istore 6, 2) := by decide +kernel
theorem dX12_part_173 : decode cX12_part 173 = .ok (.iinc 9 1, 3) := by decide +kernel
theorem dX12_part_176 : decode cX12_part 176 = .ok (.goto (-67), 3) := by decide +kernel
theorem dX12_part_179 : decode cX12_part 179 = .ok (.iinc 8 1, 3) := by decide +kernel
theorem dX12_part_182 : decode cX12_part 182 = .ok (.goto (-83), 3) := by decide +kernel
theorem dX12_part_185 : decode cX12_part 185 = .ok (.iinc 7 1, 3) := by decide +kernel
theorem dX12_part_188 : decode cX12_part 188 = .ok (.goto (-99), 3) := by decide +kernel
theorem dX12_part_191 : decode cX12_part 191 = .ok (.iload_n 3, 1) := by decide +kernel
theorem dX12_part_192 : decode cX12_part 192 = .ok (.iload 6, 2) := by decide +kernel
theorem dX12_part_194 : decode cX12_part 194 = .ok (.iconst (-1), 1) := by decide +kernel
theorem dX12_part_195 : decode cX12_part 195 = .ok (.ixor, 1) := by decide +kernel
theorem dX12_part_196 : decode cX12_part 196 = .ok (.iand, 1) := by decide +kernel
theorem dX12_part_197 : decode cX12_part 197 = .ok (.istore_n 3, 1) := by decide +kernel
theorem dX12_part_198 : decode cX12_part 198 = .ok (.iload 4, 2) := by decide +kernel
theorem dX12_part_200 : decode cX12_part 200 = .ok (.iload_n 2, 1) := by decide +kernel
theorem dX12_part_201 : decode cX12_part 201 = .ok (.if_icmp .ne 6, 3) := by decide +kernel
theorem dX12_part_204 : decode cX12_part 204 = .ok (.iload 6, 2) := by decide +kernel
theorem dX12_part_206 : decode cX12_part 206 = .ok (.ireturn, 1) := by decide +kernel
theorem dX12_part_207 : decode cX12_part 207 = .ok (.iinc 4 1, 3) := by decide +kernel
theorem dX12_part_210 : decode cX12_part 210 = .ok (.iinc 5 1, 3) := by decide +kernel
theorem dX12_part_213 : decode cX12_part 213 = .ok (.goto (-150), 3) := by decide +kernel
theorem dX12_part_216 : decode cX12_part 216 = .ok (.iload_n 2, 1) := by decide +kernel
theorem dX12_part_217 : decode cX12_part 217 = .ok (.iconst (-1), 1) := by decide +kernel
theorem dX12_part_218 : decode cX12_part 218 = .ok (.if_icmp .ne 8, 3) := by decide +kernel
theorem dX12_part_221 : decode cX12_part 221 = .ok (.iload 4, 2) := by decide +kernel
theorem dX12_part_223 : decode cX12_part 223 = .ok (.goto 4, 3) := by decide +kernel
theorem dX12_part_226 : decode cX12_part 226 = .ok (.iconst (-1), 1) := by decide +kernel
theorem dX12_part_227 : decode cX12_part 227 = .ok (.ireturn, 1) := by decide +kernel
theorem dX12_isTimes_0 : decode cX12_isTimes 0 = .ok (.aload_n 0, 1) := by decide +kernel
theorem dX12_isTimes_1 : decode cX12_isTimes 1 = .ok (.iload_n 1, 1) := by decide +kernel
theorem dX12_isTimes_2 : decode cX12_isTimes 2 = .ok (.aload_n 0, 1) := by decide +kernel
theorem dX12_isTimes_3 : decode cX12_isTimes 3 = .ok (.getfield 29, 3) := by decide +kernel
theorem dX12_isTimes_6 : decode cX12_isTimes 6 = .ok (.invokevirtual 186, 3) := by decide +kernel
theorem dX12_isTimes_9 : decode cX12_isTimes 9 = .ok (.iconst 0, 1) := by decide +kernel
theorem dX12_isTimes_10 : decode cX12_isTimes 10 = .ok (.istore_n 3, 1) := by decide +kernel
theorem dX12_isTimes_11 : decode cX12_isTimes 11 = .ok (.iconst 0, 1) := by decide +kernel
theorem dX12_isTimes_12 : decode cX12_isTimes 12 = .ok (.istore 4, 2) := by decide +kernel
theorem dX12_isTimes_14 : decode cX12_isTimes 14 = .ok (.iload 4, 2) := by decide +kernel
theorem dX12_isTimes_16 : decode cX12_isTimes 16 = .ok (.bipush 6, 2) := by decide +kernel
theorem dX12_isTimes_18 : decode cX12_isTimes 18 = .ok (.if_icmp .ge 25, 3) := by decide +kernel
theorem dX12_isTimes_21 : decode cX12_isTimes 21 = .ok (.aload_n 0, 1) := by decide +kernel
theorem dX12_isTimes_22 : decode cX12_isTimes 22 = .ok (.getfield 56, 3) := by decide +kernel
theorem dX12_isTimes_25 : decode cX12_isTimes 25 = .ok (.iload 4, 2) := by decide +kernel
theorem dX12_isTimes_27 : decode cX12_isTimes 27 = .ok (.iconst 0, 1) := by decide +kernel
theorem dX12_isTimes_28 : decode cX12_isTimes 28 = .ok (.iastore, 1) := by decide +kernel
theorem dX12_isTimes_29 : decode cX12_isTimes 29 = .ok (.aload_n 0, 1) := by decide +kernel
theorem dX12_isTimes_30 : decode cX12_isTimes 30 = .ok (.getfield 59, 3) := by decide +kernel
theorem dX12_isTimes_33 : decode cX12_isTimes 33 = .ok (.iload 4, 2) := by decide +kernel
theorem dX12_isTimes_35 : decode cX12_isTimes 35 = .ok (.iconst 0, 1) := by decide +kernel
theorem dX12_isTimes_36 : decode cX12_isTimes 36 = .ok (.iastore, 1) := by decide +kernel
theorem dX12_isTimes_37 : decode cX12_isTimes 37 = .ok (.iinc 4 1, 3) := by decide +kernel
theorem dX12_isTimes_40 : decode cX12_isTimes 40 = .ok (.goto (-26), 3) := by decide +kernel
theorem dX12_isTimes_43 : decode cX12_isTimes 43 = .ok (.iconst 0, 1) := by decide +kernel
theorem dX12_isTimes_44 : decode cX12_isTimes 44 = .ok (.istore 4, 2) := by decide +kernel
theorem dX12_isTimes_46 : decode cX12_isTimes 46 = .ok (.iload 4, 2) := by decide +kernel
theorem dX12_isTimes_48 : decode cX12_isTimes 48 = .ok (.aload_n 0, 1) := by decide +kernel
theorem dX12_isTimes_49 : decode cX12_isTimes 49 = .ok (.getfield 17, 3) := by decide +kernel
theorem dX12_isTimes_52 : decode cX12_isTimes 52 = .ok (.iload_n 1, 1) := by decide +kernel
theorem dX12_isTimes_53 : decode cX12_isTimes 53 = .ok (.iaload, 1) := by decide +kernel
theorem dX12_isTimes_54 : decode cX12_isTimes 54 = .ok (.if_icmp .ge 25, 3) := by decide +kernel
theorem dX12_isTimes_57 : decode cX12_isTimes 57 = .ok (.aload_n 0, 1) := by decide +kernel
theorem dX12_isTimes_58 : decode cX12_isTimes 58 = .ok (.getfield 56, 3) := by decide +kernel
theorem dX12_isTimes_61 : decode cX12_isTimes 61 = .ok (.aload_n 0, 1) := by decide +kernel
theorem dX12_isTimes_62 : decode cX12_isTimes 62 = .ok (.getfield 29, 3) := by decide +kernel
theorem dX12_isTimes_65 : decode cX12_isTimes 65 = .ok (.iload 4, 2) := by decide +kernel
theorem dX12_isTimes_67 : decode cX12_isTimes 67 = .ok (.iaload, 1) := by decide +kernel
theorem dX12_isTimes_68 : decode cX12_isTimes 68 = .ok (.dup2, 1) := by decide +kernel
theorem dX12_isTimes_69 : decode cX12_isTimes 69 = .ok (.iaload, 1) := by decide +kernel
theorem dX12_isTimes_70 : decode cX12_isTimes 70 = .ok (.iconst 1, 1) := by decide +kernel
theorem dX12_isTimes_71 : decode cX12_isTimes 71 = .ok (.iadd, 1) := by decide +kernel
theorem dX12_isTimes_72 : decode cX12_isTimes 72 = .ok (.iastore, 1) := by decide +kernel
theorem dX12_isTimes_73 : decode cX12_isTimes 73 = .ok (.iinc 4 1, 3) := by decide +kernel
theorem dX12_isTimes_76 : decode cX12_isTimes 76 = .ok (.goto (-30), 3) := by decide +kernel
theorem dX12_isTimes_79 : decode cX12_isTimes 79 = .ok (.iconst 0, 1) := by decide +kernel
theorem dX12_isTimes_80 : decode cX12_isTimes 80 = .ok (.istore 4, 2) := by decide +kernel
theorem dX12_isTimes_82 : decode cX12_isTimes 82 = .ok (.iload 4, 2) := by decide +kernel
theorem dX12_isTimes_84 : decode cX12_isTimes 84 = .ok (.bipush 6, 2) := by decide +kernel
theorem dX12_isTimes_86 : decode cX12_isTimes 86 = .ok (.if_icmp .ge 23, 3) := by decide +kernel
theorem dX12_isTimes_89 : decode cX12_isTimes 89 = .ok (.aload_n 0, 1) := by decide +kernel
theorem dX12_isTimes_90 : decode cX12_isTimes 90 = .ok (.getfield 56, 3) := by decide +kernel
theorem dX12_isTimes_93 : decode cX12_isTimes 93 = .ok (.iload 4, 2) := by decide +kernel
theorem dX12_isTimes_95 : decode cX12_isTimes 95 = .ok (.iaload, 1) := by decide +kernel
theorem dX12_isTimes_96 : decode cX12_isTimes 96 = .ok (.iload_n 2, 1) := by decide +kernel
theorem dX12_isTimes_97 : decode cX12_isTimes 97 = .ok (.irem, 1) := by decide +kernel
theorem dX12_isTimes_98 : decode cX12_isTimes 98 = .ok (.ifCond .eq 5, 3) := by decide +kernel
theorem dX12_isTimes_101 : decode cX12_isTimes 101 = .ok (.iconst 0, 1) := by decide +kernel
theorem dX12_isTimes_102 : decode cX12_isTimes 102 = .ok (.ireturn, 1) := by decide +kernel
theorem dX12_isTimes_103 : decode cX12_isTimes 103 = .ok (.iinc 4 1, 3) := by decide +kernel
theorem dX12_isTimes_106 : decode cX12_isTimes 106 = .ok (.goto (-24), 3) := by decide +kernel
theorem dX12_isTimes_109 : decode cX12_isTimes 109 = .ok (.iconst 0, 1) := by decide +kernel
theorem dX12_isTimes_110 : decode cX12_isTimes 110 = .ok (.istore 4, 2) := by decide +kernel
theorem dX12_isTimes_112 : decode cX12_isTimes 112 = .ok (.iload 4, 2) := by decide +kernel
theorem dX12_isTimes_114 : decode cX12_isTimes 114 = .ok (.aload_n 0, 1) := by decide +kernel
theorem dX12_isTimes_115 : decode cX12_isTimes 115 = .ok (.getfield 17, 3) := by decide +kernel
theorem dX12_isTimes_118 : decode cX12_isTimes 118 = .ok (.iload_n 1, 1) := by decide +kernel
theorem dX12_isTimes_119 : decode cX12_isTimes 119 = .ok (.iaload, 1) := by decide +kernel
theorem dX12_isTimes_120 : decode cX12_isTimes 120 = .ok (.if_icmp .ge 70, 3) := by decide +kernel
theorem dX12_isTimes_123 : decode cX12_isTimes 123 = .ok (.aload_n 0, 1) := by decide +kernel
theorem dX12_isTimes_124 : decode cX12_isTimes 124 = .ok (.getfield 59, 3) := by decide +kernel
theorem dX12_isTimes_127 : decode cX12_isTimes 127 = .ok (.aload_n 0, 1) := by decide +kernel
theorem dX12_isTimes_128 : decode cX12_isTimes 128 = .ok (.getfield 29, 3) := by decide +kernel
theorem dX12_isTimes_131 : decode cX12_isTimes 131 = .ok (.iload 4, 2) := by decide +kernel
theorem dX12_isTimes_133 : decode cX12_isTimes 133 = .ok (.iaload, 1) := by decide +kernel
theorem dX12_isTimes_134 : decode cX12_isTimes 134 = .ok (.iaload, 1) := by decide +kernel
theorem dX12_isTimes_135 : decode cX12_isTimes 135 = .ok (.aload_n 0, 1) := by decide +kernel
theorem dX12_isTimes_136 : decode cX12_isTimes 136 = .ok (.getfield 56, 3) := by decide +kernel
theorem dX12_isTimes_139 : decode cX12_isTimes 139 = .ok (.aload_n 0, 1) := by decide +kernel
theorem dX12_isTimes_140 : decode cX12_isTimes 140 = .ok (.getfield 29, 3) := by decide +kernel
theorem dX12_isTimes_143 : decode cX12_isTimes 143 = .ok (.iload 4, 2) := by decide +kernel
theorem dX12_isTimes_145 : decode cX12_isTimes 145 = .ok (.iaload, 1) := by decide +kernel
theorem dX12_isTimes_146 : decode cX12_isTimes 146 = .ok (.iaload, 1) := by decide +kernel
theorem dX12_isTimes_147 : decode cX12_isTimes 147 = .ok (.iload_n 2, 1) := by decide +kernel
theorem dX12_isTimes_148 : decode cX12_isTimes 148 = .ok (.idiv, 1) := by decide +kernel
theorem dX12_isTimes_149 : decode cX12_isTimes 149 = .ok (.if_icmp .ge 35, 3) := by decide +kernel
theorem dX12_isTimes_152 : decode cX12_isTimes 152 = .ok (.aload_n 0, 1) := by decide +kernel
theorem dX12_isTimes_153 : decode cX12_isTimes 153 = .ok (.getfield 32, 3) := by decide +kernel
theorem dX12_isTimes_156 : decode cX12_isTimes 156 = .ok (.iload_n 3, 1) := by decide +kernel
theorem dX12_isTimes_157 : decode cX12_isTimes 157 = .ok (.aload_n 0, 1) := by decide +kernel
theorem dX12_isTimes_158 : decode cX12_isTimes 158 = .ok (.getfield 29, 3) := by decide +kernel
theorem dX12_isTimes_161 : decode cX12_isTimes 161 = .ok (.iload 4, 2) := by decide +kernel
theorem dX12_isTimes_163 : decode cX12_isTimes 163 = .ok (.iaload, 1) := by decide +kernel
theorem dX12_isTimes_164 : decode cX12_isTimes 164 = .ok (.iastore, 1) := by decide +kernel
theorem dX12_isTimes_165 : decode cX12_isTimes 165 = .ok (.iinc 3 1, 3) := by decide +kernel
theorem dX12_isTimes_168 : decode cX12_isTimes 168 = .ok (.aload_n 0, 1) := by decide +kernel
theorem dX12_isTimes_169 : decode cX12_isTimes 169 = .ok (.getfield 59, 3) := by decide +kernel
theorem dX12_isTimes_172 : decode cX12_isTimes 172 = .ok (.aload_n 0, 1) := by decide +kernel
theorem dX12_isTimes_173 : decode cX12_isTimes 173 = .ok (.getfield 29, 3) := by decide +kernel
theorem dX12_isTimes_176 : decode cX12_isTimes 176 = .ok (.iload 4, 2) := by decide +kernel
theorem dX12_isTimes_178 : decode cX12_isTimes 178 = .ok (.iaload, 1) := by decide +kernel
theorem dX12_isTimes_179 : decode cX12_isTimes 179 = .ok (.dup2, 1) := by decide +kernel
theorem dX12_isTimes_180 : decode cX12_isTimes 180 = .ok (.iaload, 1) := by decide +kernel
theorem dX12_isTimes_181 : decode cX12_isTimes 181 = .ok (.iconst 1, 1) := by decide +kernel
theorem dX12_isTimes_182 : decode cX12_isTimes 182 = .ok (.iadd, 1) := by decide +kernel
theorem dX12_isTimes_183 : decode cX12_isTimes 183 = .ok (.iastore, 1) := by decide +kernel
theorem dX12_isTimes_184 : decode cX12_isTimes 184 = .ok (.iinc 4 1, 3) := by decide +kernel
theorem dX12_isTimes_187 : decode cX12_isTimes 187 = .ok (.goto (-75), 3) := by decide +kernel
theorem dX12_isTimes_190 : decode cX12_isTimes 190 = .ok (.iload_n 3, 1) := by decide +kernel
theorem dX12_isTimes_191 : decode cX12_isTimes 191 = .ok (.istore 4, 2) := by decide +kernel
theorem dX12_isTimes_193 : decode cX12_isTimes 193 = .ok (.iload 4, 2) := by decide +kernel
theorem dX12_isTimes_195 : decode cX12_isTimes 195 = .ok (.aload_n 0, 1) := by decide +kernel
theorem dX12_isTimes_196 : decode cX12_isTimes 196 = .ok (.getfield 17, 3) := by decide +kernel
