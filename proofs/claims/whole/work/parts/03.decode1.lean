theorem dX0_init_0 : decode cX0_init 0 = .ok (.aload_n 0, 1) := by decide +kernel
theorem dX0_init_1 : decode cX0_init 1 = .ok (.invokespecial 3, 3) := by decide +kernel
theorem dX0_init_4 : decode cX0_init 4 = .ok (.aload_n 0, 1) := by decide +kernel
theorem dX0_init_5 : decode cX0_init 5 = .ok (.sipush 15625, 3) := by decide +kernel
theorem dX0_init_8 : decode cX0_init 8 = .ok (.newarray .byte, 2) := by decide +kernel
theorem dX0_init_10 : decode cX0_init 10 = .ok (.putfield 11, 3) := by decide +kernel
theorem dX0_init_13 : decode cX0_init 13 = .ok (.aload_n 0, 1) := by decide +kernel
theorem dX0_init_14 : decode cX0_init 14 = .ok (.sipush 15625, 3) := by decide +kernel
theorem dX0_init_17 : decode cX0_init 17 = .ok (.newarray .int, 2) := by decide +kernel
theorem dX0_init_19 : decode cX0_init 19 = .ok (.putfield 15, 3) := by decide +kernel
theorem dX0_init_22 : decode cX0_init 22 = .ok (.aload_n 0, 1) := by decide +kernel
theorem dX0_init_23 : decode cX0_init 23 = .ok (.bipush 6, 2) := by decide +kernel
theorem dX0_init_25 : decode cX0_init 25 = .ok (.newarray .int, 2) := by decide +kernel
theorem dX0_init_27 : decode cX0_init 27 = .ok (.putfield 19, 3) := by decide +kernel
theorem dX0_init_30 : decode cX0_init 30 = .ok (.aload_n 0, 1) := by decide +kernel
theorem dX0_init_31 : decode cX0_init 31 = .ok (.bipush 6, 2) := by decide +kernel
theorem dX0_init_33 : decode cX0_init 33 = .ok (.newarray .int, 2) := by decide +kernel
theorem dX0_init_35 : decode cX0_init 35 = .ok (.putfield 22, 3) := by decide +kernel
theorem dX0_init_38 : decode cX0_init 38 = .ok (.aload_n 0, 1) := by decide +kernel
theorem dX0_init_39 : decode cX0_init 39 = .ok (.bipush 6, 2) := by decide +kernel
theorem dX0_init_41 : decode cX0_init 41 = .ok (.newarray .int, 2) := by decide +kernel
theorem dX0_init_43 : decode cX0_init 43 = .ok (.putfield 25, 3) := by decide +kernel
theorem dX0_init_46 : decode cX0_init 46 = .ok (.aload_n 0, 1) := by decide +kernel
theorem dX0_init_47 : decode cX0_init 47 = .ok (.sipush 144, 3) := by decide +kernel
theorem dX0_init_50 : decode cX0_init 50 = .ok (.bipush 6, 2) := by decide +kernel
theorem dX0_init_52 : decode cX0_init 52 = .ok (.multianewarray 28 2, 4) := by decide +kernel
theorem dX0_init_56 : decode cX0_init 56 = .ok (.putfield 30, 3) := by decide +kernel
theorem dX0_init_59 : decode cX0_init 59 = .ok (.aload_n 0, 1) := by decide +kernel
theorem dX0_init_60 : decode cX0_init 60 = .ok (.iconst 0, 1) := by decide +kernel
theorem dX0_init_61 : decode cX0_init 61 = .ok (.putfield 33, 3) := by decide +kernel
theorem dX0_init_64 : decode cX0_init 64 = .ok (.aload_n 0, 1) := by decide +kernel
theorem dX0_init_65 : decode cX0_init 65 = .ok (.iconst 0, 1) := by decide +kernel
theorem dX0_init_66 : decode cX0_init 66 = .ok (.putfield 37, 3) := by decide +kernel
theorem dX0_init_69 : decode cX0_init 69 = .ok (.aload_n 0, 1) := by decide +kernel
theorem dX0_init_70 : decode cX0_init 70 = .ok (.iconst 0, 1) := by decide +kernel
theorem dX0_init_71 : decode cX0_init 71 = .ok (.putfield 40, 3) := by decide +kernel
theorem dX0_init_74 : decode cX0_init 74 = .ok (.aload_n 0, 1) := by decide +kernel
theorem dX0_init_75 : decode cX0_init 75 = .ok (.aload_n 1, 1) := by decide +kernel
theorem dX0_init_76 : decode cX0_init 76 = .ok (.putfield 43, 3) := by decide +kernel
theorem dX0_init_79 : decode cX0_init 79 = .ok (.return_, 1) := by decide +kernel
theorem dX0_found_0 : decode cX0_found 0 = .ok (.aload_n 0, 1) := by decide +kernel
theorem dX0_found_1 : decode cX0_found 1 = .ok (.getfield 37, 3) := by decide +kernel
theorem dX0_found_4 : decode cX0_found 4 = .ok (.ireturn, 1) := by decide +kernel
theorem dX0_ways_0 : decode cX0_ways 0 = .ok (.aload_n 0, 1) := by decide +kernel
theorem dX0_ways_1 : decode cX0_ways 1 = .ok (.getfield 33, 3) := by decide +kernel
theorem dX0_ways_4 : decode cX0_ways 4 = .ok (.iconst 1, 1) := by decide +kernel
theorem dX0_ways_5 : decode cX0_ways 5 = .ok (.if_icmp .lt 29, 3) := by decide +kernel
theorem dX0_ways_8 : decode cX0_ways 8 = .ok (.aload_n 0, 1) := by decide +kernel
theorem dX0_ways_9 : decode cX0_ways 9 = .ok (.getfield 33, 3) := by decide +kernel
theorem dX0_ways_12 : decode cX0_ways 12 = .ok (.aload_n 0, 1) := by decide +kernel
theorem dX0_ways_13 : decode cX0_ways 13 = .ok (.getfield 15, 3) := by decide +kernel
theorem dX0_ways_16 : decode cX0_ways 16 = .ok (.arraylength, 1) := by decide +kernel
theorem dX0_ways_17 : decode cX0_ways 17 = .ok (.if_icmp .gt 17, 3) := by decide +kernel
theorem dX0_ways_20 : decode cX0_ways 20 = .ok (.aload_n 0, 1) := by decide +kernel
theorem dX0_ways_21 : decode cX0_ways 21 = .ok (.getfield 15, 3) := by decide +kernel
theorem dX0_ways_24 : decode cX0_ways 24 = .ok (.aload_n 0, 1) := by decide +kernel
theorem dX0_ways_25 : decode cX0_ways 25 = .ok (.getfield 33, 3) := by decide +kernel
theorem dX0_ways_28 : decode cX0_ways 28 = .ok (.iconst 1, 1) := by decide +kernel
theorem dX0_ways_29 : decode cX0_ways 29 = .ok (.isub, 1) := by decide +kernel
theorem dX0_ways_30 : decode cX0_ways 30 = .ok (.iaload, 1) := by decide +kernel
theorem dX0_ways_31 : decode cX0_ways 31 = .ok (.goto 4, 3) := by decide +kernel
theorem dX0_ways_34 : decode cX0_ways 34 = .ok (.iconst 0, 1) := by decide +kernel
theorem dX0_ways_35 : decode cX0_ways 35 = .ok (.ireturn, 1) := by decide +kernel
theorem dX0_wide_0 : decode cX0_wide 0 = .ok (.aload_n 0, 1) := by decide +kernel
theorem dX0_wide_1 : decode cX0_wide 1 = .ok (.getfield 40, 3) := by decide +kernel
theorem dX0_wide_4 : decode cX0_wide 4 = .ok (.ireturn, 1) := by decide +kernel
theorem dX0_find_0 : decode cX0_find 0 = .ok (.aload_n 0, 1) := by decide +kernel
theorem dX0_find_1 : decode cX0_find 1 = .ok (.iconst 0, 1) := by decide +kernel
theorem dX0_find_2 : decode cX0_find 2 = .ok (.putfield 37, 3) := by decide +kernel
theorem dX0_find_5 : decode cX0_find 5 = .ok (.aload_n 0, 1) := by decide +kernel
theorem dX0_find_6 : decode cX0_find 6 = .ok (.iconst 0, 1) := by decide +kernel
theorem dX0_find_7 : decode cX0_find 7 = .ok (.putfield 40, 3) := by decide +kernel
theorem dX0_find_10 : decode cX0_find 10 = .ok (.aload_n 0, 1) := by decide +kernel
theorem dX0_find_11 : decode cX0_find 11 = .ok (.aload_n 1, 1) := by decide +kernel
theorem dX0_find_12 : decode cX0_find 12 = .ok (.invokevirtual 47, 3) := by decide +kernel
theorem dX0_find_15 : decode cX0_find 15 = .ok (.aload_n 0, 1) := by decide +kernel
theorem dX0_find_16 : decode cX0_find 16 = .ok (.getfield 33, 3) := by decide +kernel
theorem dX0_find_19 : decode cX0_find 19 = .ok (.sipush 15625, 3) := by decide +kernel
theorem dX0_find_22 : decode cX0_find 22 = .ok (.if_icmp .le 5, 3) := by decide +kernel
theorem dX0_find_25 : decode cX0_find 25 = .ok (.iconst 0, 1) := by decide +kernel
theorem dX0_find_26 : decode cX0_find 26 = .ok (.ireturn, 1) := by decide +kernel
theorem dX0_find_27 : decode cX0_find 27 = .ok (.aload_n 0, 1) := by decide +kernel
theorem dX0_find_28 : decode cX0_find 28 = .ok (.aload_n 1, 1) := by decide +kernel
theorem dX0_find_29 : decode cX0_find 29 = .ok (.invokevirtual 51, 3) := by decide +kernel
theorem dX0_find_32 : decode cX0_find 32 = .ok (.aload_n 0, 1) := by decide +kernel
theorem dX0_find_33 : decode cX0_find 33 = .ok (.invokevirtual 54, 3) := by decide +kernel
theorem dX0_find_36 : decode cX0_find 36 = .ok (.iconst 0, 1) := by decide +kernel
theorem dX0_find_37 : decode cX0_find 37 = .ok (.istore_n 2, 1) := by decide +kernel
theorem dX0_find_38 : decode cX0_find 38 = .ok (.iload_n 2, 1) := by decide +kernel
theorem dX0_find_39 : decode cX0_find 39 = .ok (.aload_n 0, 1) := by decide +kernel
theorem dX0_find_40 : decode cX0_find 40 = .ok (.getfield 33, 3) := by decide +kernel
theorem dX0_find_43 : decode cX0_find 43 = .ok (.if_icmp .ge 58, 3) := by decide +kernel
theorem dX0_find_46 : decode cX0_find 46 = .ok (.iload_n 2, 1) := by decide +kernel
theorem dX0_find_47 : decode cX0_find 47 = .ok (.aload_n 0, 1) := by decide +kernel
theorem dX0_find_48 : decode cX0_find 48 = .ok (.getfield 11, 3) := by decide +kernel
theorem dX0_find_51 : decode cX0_find 51 = .ok (.arraylength, 1) := by decide +kernel
theorem dX0_find_52 : decode cX0_find 52 = .ok (.if_icmp .ge 49, 3) := by decide +kernel
theorem dX0_find_55 : decode cX0_find 55 = .ok (.aload_n 0, 1) := by decide +kernel
theorem dX0_find_56 : decode cX0_find 56 = .ok (.getfield 11, 3) := by decide +kernel
theorem dX0_find_59 : decode cX0_find 59 = .ok (.iload_n 2, 1) := by decide +kernel
theorem dX0_find_60 : decode cX0_find 60 = .ok (.baload, 1) := by decide +kernel
theorem dX0_find_61 : decode cX0_find 61 = .ok (.iconst 1, 1) := by decide +kernel
theorem dX0_find_62 : decode cX0_find 62 = .ok (.if_icmp .ne 29, 3) := by decide +kernel
theorem dX0_find_65 : decode cX0_find 65 = .ok (.aload_n 0, 1) := by decide +kernel
theorem dX0_find_66 : decode cX0_find 66 = .ok (.dup, 1) := by decide +kernel
theorem dX0_find_67 : decode cX0_find 67 = .ok (.getfield 37, 3) := by decide +kernel
theorem dX0_find_70 : decode cX0_find 70 = .ok (.iconst 1, 1) := by decide +kernel
theorem dX0_find_71 : decode cX0_find 71 = .ok (.iadd, 1) := by decide +kernel
theorem dX0_find_72 : decode cX0_find 72 = .ok (.putfield 37, 3) := by decide +kernel
theorem dX0_find_75 : decode cX0_find 75 = .ok (.aload_n 0, 1) := by decide +kernel
theorem dX0_find_76 : decode cX0_find 76 = .ok (.aload_n 0, 1) := by decide +kernel
theorem dX0_find_77 : decode cX0_find 77 = .ok (.getfield 40, 3) := by decide +kernel
theorem dX0_find_80 : decode cX0_find 80 = .ok (.aload_n 0, 1) := by decide +kernel
theorem dX0_find_81 : decode cX0_find 81 = .ok (.iload_n 2, 1) := by decide +kernel
theorem dX0_find_82 : decode cX0_find 82 = .ok (.invokevirtual 57, 3) := by decide +kernel
theorem dX0_find_85 : decode cX0_find 85 = .ok (.invokestatic 61, 3) := by decide +kernel
theorem dX0_find_88 : decode cX0_find 88 = .ok (.putfield 40, 3) := by decide +kernel
theorem dX0_find_91 : decode cX0_find 91 = .ok (.aload_n 0, 1) := by decide +kernel
theorem dX0_find_92 : decode cX0_find 92 = .ok (.invokevirtual 67, 3) := by decide +kernel
theorem dX0_find_95 : decode cX0_find 95 = .ok (.iinc 2 1, 3) := by decide +kernel
theorem dX0_find_98 : decode cX0_find 98 = .ok (.goto (-60), 3) := by decide +kernel
theorem dX0_find_101 : decode cX0_find 101 = .ok (.iconst 1, 1) := by decide +kernel
theorem dX0_find_102 : decode cX0_find 102 = .ok (.ireturn, 1) := by decide +kernel
theorem dX0_startAtNone_0 : decode cX0_startAtNone 0 = .ok (.aload_n 0, 1) := by decide +kernel
theorem dX0_startAtNone_1 : decode cX0_startAtNone 1 = .ok (.getfield 25, 3) := by decide +kernel
theorem dX0_startAtNone_4 : decode cX0_startAtNone 4 = .ok (.iconst 0, 1) := by decide +kernel
theorem dX0_startAtNone_5 : decode cX0_startAtNone 5 = .ok (.invokestatic 70, 3) := by decide +kernel
theorem dX0_startAtNone_8 : decode cX0_startAtNone 8 = .ok (.iconst 0, 1) := by decide +kernel
theorem dX0_startAtNone_9 : decode cX0_startAtNone 9 = .ok (.istore_n 1, 1) := by decide +kernel
theorem dX0_startAtNone_10 : decode cX0_startAtNone 10 = .ok (.iload_n 1, 1) := by decide +kernel
theorem dX0_startAtNone_11 : decode cX0_startAtNone 11 = .ok (.aload_n 0, 1) := by decide +kernel
theorem dX0_startAtNone_12 : decode cX0_startAtNone 12 = .ok (.getfield 33, 3) := by decide +kernel
theorem dX0_startAtNone_15 : decode cX0_startAtNone 15 = .ok (.if_icmp .ge 41, 3) := by decide +kernel
theorem dX0_startAtNone_18 : decode cX0_startAtNone 18 = .ok (.iload_n 1, 1) := by decide +kernel
theorem dX0_startAtNone_19 : decode cX0_startAtNone 19 = .ok (.aload_n 0, 1) := by decide +kernel
theorem dX0_startAtNone_20 : decode cX0_startAtNone 20 = .ok (.getfield 11, 3) := by decide +kernel
theorem dX0_startAtNone_23 : decode cX0_startAtNone 23 = .ok (.arraylength, 1) := by decide +kernel
theorem dX0_startAtNone_24 : decode cX0_startAtNone 24 = .ok (.if_icmp .ge 32, 3) := by decide +kernel
theorem dX0_startAtNone_27 : decode cX0_startAtNone 27 = .ok (.iload_n 1, 1) := by decide +kernel
theorem dX0_startAtNone_28 : decode cX0_startAtNone 28 = .ok (.aload_n 0, 1) := by decide +kernel
theorem dX0_startAtNone_29 : decode cX0_startAtNone 29 = .ok (.getfield 15, 3) := by decide +kernel
theorem dX0_startAtNone_32 : decode cX0_startAtNone 32 = .ok (.arraylength, 1) := by decide +kernel
theorem dX0_startAtNone_33 : decode cX0_startAtNone 33 = .ok (.if_icmp .ge 23, 3) := by decide +kernel
theorem dX0_startAtNone_36 : decode cX0_startAtNone 36 = .ok (.aload_n 0, 1) := by decide +kernel
theorem dX0_startAtNone_37 : decode cX0_startAtNone 37 = .ok (.getfield 11, 3) := by decide +kernel
theorem dX0_startAtNone_40 : decode cX0_startAtNone 40 = .ok (.iload_n 1, 1) := by decide +kernel
theorem dX0_startAtNone_41 : decode cX0_startAtNone 41 = .ok (.iconst 0, 1) := by decide +kernel
theorem dX0_startAtNone_42 : decode cX0_startAtNone 42 = .ok (.bastore, 1) := by decide +kernel
theorem dX0_startAtNone_43 : decode cX0_startAtNone 43 = .ok (.aload_n 0, 1) := by decide +kernel
theorem dX0_startAtNone_44 : decode cX0_startAtNone 44 = .ok (.getfield 15, 3) := by decide +kernel
theorem dX0_startAtNone_47 : decode cX0_startAtNone 47 = .ok (.iload_n 1, 1) := by decide +kernel
theorem dX0_startAtNone_48 : decode cX0_startAtNone 48 = .ok (.iconst 0, 1) := by decide +kernel
theorem dX0_startAtNone_49 : decode cX0_startAtNone 49 = .ok (.iastore, 1) := by decide +kernel
theorem dX0_startAtNone_50 : decode cX0_startAtNone 50 = .ok (.iinc 1 1, 3) := by decide +kernel
theorem dX0_startAtNone_53 : decode cX0_startAtNone 53 = .ok (.goto (-43), 3) := by decide +kernel
theorem dX0_startAtNone_56 : decode cX0_startAtNone 56 = .ok (.aload_n 0, 1) := by decide +kernel
theorem dX0_startAtNone_57 : decode cX0_startAtNone 57 = .ok (.iconst 0, 1) := by decide +kernel
theorem dX0_startAtNone_58 : decode cX0_startAtNone 58 = .ok (.iconst 1, 1) := by decide +kernel
theorem dX0_startAtNone_59 : decode cX0_startAtNone 59 = .ok (.invokevirtual 76, 3) := by decide +kernel
theorem dX0_startAtNone_62 : decode cX0_startAtNone 62 = .ok (.return_, 1) := by decide +kernel
theorem dX0_measure_0 : decode cX0_measure 0 = .ok (.aload_n 0, 1) := by decide +kernel
theorem dX0_measure_1 : decode cX0_measure 1 = .ok (.iconst 1, 1) := by decide +kernel
theorem dX0_measure_2 : decode cX0_measure 2 = .ok (.putfield 33, 3) := by decide +kernel
theorem dX0_measure_5 : decode cX0_measure 5 = .ok (.iconst 0, 1) := by decide +kernel
theorem dX0_measure_6 : decode cX0_measure 6 = .ok (.istore_n 2, 1) := by decide +kernel
theorem dX0_measure_7 : decode cX0_measure 7 = .ok (.iload_n 2, 1) := by decide +kernel
theorem dX0_measure_8 : decode cX0_measure 8 = .ok (.aload_n 0, 1) := by decide +kernel
theorem dX0_measure_9 : decode cX0_measure 9 = .ok (.getfield 19, 3) := by decide +kernel
theorem dX0_measure_12 : decode cX0_measure 12 = .ok (.arraylength, 1) := by decide +kernel
theorem dX0_measure_13 : decode cX0_measure 13 = .ok (.if_icmp .ge 56, 3) := by decide +kernel
theorem dX0_measure_16 : decode cX0_measure 16 = .ok (.iload_n 2, 1) := by decide +kernel
theorem dX0_measure_17 : decode cX0_measure 17 = .ok (.aload_n 0, 1) := by decide +kernel
theorem dX0_measure_18 : decode cX0_measure 18 = .ok (.getfield 22, 3) := by decide +kernel
theorem dX0_measure_21 : decode cX0_measure 21 = .ok (.arraylength, 1) := by decide +kernel
theorem dX0_measure_22 : decode cX0_measure 22 = .ok (.if_icmp .ge 47, 3) := by decide +kernel
theorem dX0_measure_25 : decode cX0_measure 25 = .ok (.aload_n 0, 1) := by decide +kernel
theorem dX0_measure_26 : decode cX0_measure 26 = .ok (.getfield 19, 3) := by decide +kernel
theorem dX0_measure_29 : decode cX0_measure 29 = .ok (.iload_n 2, 1) := by decide +kernel
theorem dX0_measure_30 : decode cX0_measure 30 = .ok (.aload_n 1, 1) := by decide +kernel
theorem dX0_measure_31 : decode cX0_measure 31 = .ok (.iload_n 2, 1) := by decide +kernel
theorem dX0_measure_32 : decode cX0_measure 32 = .ok (.invokevirtual 80, 3) := by decide +kernel
theorem dX0_measure_35 : decode cX0_measure 35 = .ok (.iastore, 1) := by decide +kernel
theorem dX0_measure_36 : decode cX0_measure 36 = .ok (.aload_n 0, 1) := by decide +kernel
theorem dX0_measure_37 : decode cX0_measure 37 = .ok (.getfield 22, 3) := by decide +kernel
theorem dX0_measure_40 : decode cX0_measure 40 = .ok (.iload_n 2, 1) := by decide +kernel
theorem dX0_measure_41 : decode cX0_measure 41 = .ok (.aload_n 0, 1) := by decide +kernel
theorem dX0_measure_42 : decode cX0_measure 42 = .ok (.getfield 33, 3) := by decide +kernel
theorem dX0_measure_45 : decode cX0_measure 45 = .ok (.iastore, 1) := by decide +kernel
theorem dX0_measure_46 : decode cX0_measure 46 = .ok (.aload_n 0, 1) := by decide +kernel
theorem dX0_measure_47 : decode cX0_measure 47 = .ok (.dup, 1) := by decide +kernel
theorem dX0_measure_48 : decode cX0_measure 48 = .ok (.getfield 33, 3) := by decide +kernel
theorem dX0_measure_51 : decode cX0_measure 51 = .ok (.aload_n 0, 1) := by decide +kernel
theorem dX0_measure_52 : decode cX0_measure 52 = .ok (.getfield 19, 3) := by decide +kernel
theorem dX0_measure_55 : decode cX0_measure 55 = .ok (.iload_n 2, 1) := by decide +kernel
theorem dX0_measure_56 : decode cX0_measure 56 = .ok (.iaload, 1) := by decide +kernel
theorem dX0_measure_57 : decode cX0_measure 57 = .ok (.iconst 1, 1) := by decide +kernel
theorem dX0_measure_58 : decode cX0_measure 58 = .ok (.iadd, 1) := by decide +kernel
theorem dX0_measure_59 : decode cX0_measure 59 = .ok (.imul, 1) := by decide +kernel
theorem dX0_measure_60 : decode cX0_measure 60 = .ok (.putfield 33, 3) := by decide +kernel
theorem dX0_measure_63 : decode cX0_measure 63 = .ok (.iinc 2 1, 3) := by decide +kernel
theorem dX0_measure_66 : decode cX0_measure 66 = .ok (.goto (-59), 3) := by decide +kernel
theorem dX0_measure_69 : decode cX0_measure 69 = .ok (.return_, 1) := by decide +kernel
theorem dX0_noteNeeds_0 : decode cX0_noteNeeds 0 = .ok (.aload_n 0, 1) := by decide +kernel
theorem dX0_noteNeeds_1 : decode cX0_noteNeeds 1 = .ok (.getfield 25, 3) := by decide +kernel
theorem dX0_noteNeeds_4 : decode cX0_noteNeeds 4 = .ok (.iconst 0, 1) := by decide +kernel
theorem dX0_noteNeeds_5 : decode cX0_noteNeeds 5 = .ok (.invokestatic 70, 3) := by decide +kernel
theorem dX0_noteNeeds_8 : decode cX0_noteNeeds 8 = .ok (.iconst 0, 1) := by decide +kernel
theorem dX0_noteNeeds_9 : decode cX0_noteNeeds 9 = .ok (.istore_n 2, 1) := by decide +kernel
theorem dX0_noteNeeds_10 : decode cX0_noteNeeds 10 = .ok (.iload_n 2, 1) := by decide +kernel
theorem dX0_noteNeeds_11 : decode cX0_noteNeeds 11 = .ok (.aload_n 1, 1) := by decide +kernel
theorem dX0_noteNeeds_12 : decode cX0_noteNeeds 12 = .ok (.invokevirtual 85, 3) := by decide +kernel
theorem dX0_noteNeeds_15 : decode cX0_noteNeeds 15 = .ok (.if_icmp .ge 62, 3) := by decide +kernel
theorem dX0_noteNeeds_18 : decode cX0_noteNeeds 18 = .ok (.aload_n 1, 1) := by decide +kernel
theorem dX0_noteNeeds_19 : decode cX0_noteNeeds 19 = .ok (.iload_n 2, 1) := by decide +kernel
theorem dX0_noteNeeds_20 : decode cX0_noteNeeds 20 = .ok (.invokevirtual 89, 3) := by decide +kernel
theorem dX0_noteNeeds_23 : decode cX0_noteNeeds 23 = .ok (.istore_n 3, 1) := by decide +kernel
theorem dX0_noteNeeds_24 : decode cX0_noteNeeds 24 = .ok (.iload_n 3, 1) := by decide +kernel
theorem dX0_noteNeeds_25 : decode cX0_noteNeeds 25 = .ok (.ifCond .lt 12, 3) := by decide +kernel
theorem dX0_noteNeeds_28 : decode cX0_noteNeeds 28 = .ok (.iload_n 3, 1) := by decide +kernel
theorem dX0_noteNeeds_29 : decode cX0_noteNeeds 29 = .ok (.aload_n 0, 1) := by decide +kernel
theorem dX0_noteNeeds_30 : decode cX0_noteNeeds 30 = .ok (.getfield 25, 3) := by decide +kernel
theorem dX0_noteNeeds_33 : decode cX0_noteNeeds 33 = .ok (.arraylength, 1) := by decide +kernel
theorem dX0_noteNeeds_34 : decode cX0_noteNeeds 34 = .ok (.if_icmp .lt 4, 3) := by decide +kernel
theorem dX0_noteNeeds_37 : decode cX0_noteNeeds 37 = .ok (.return_, 1) := by decide +kernel
theorem dX0_noteNeeds_38 : decode cX0_noteNeeds 38 = .ok (.aload_n 0, 1) := by decide +kernel
theorem dX0_noteNeeds_39 : decode cX0_noteNeeds 39 = .ok (.iload_n 3, 1) := by decide +kernel
theorem dX0_noteNeeds_40 : decode cX0_noteNeeds 40 = .ok (.bipush 24, 2) := by decide +kernel
theorem dX0_noteNeeds_42 : decode cX0_noteNeeds 42 = .ok (.imul, 1) := by decide +kernel
theorem dX0_noteNeeds_43 : decode cX0_noteNeeds 43 = .ok (.aload_n 0, 1) := by decide +kernel
theorem dX0_noteNeeds_44 : decode cX0_noteNeeds 44 = .ok (.getfield 25, 3) := by decide +kernel
theorem dX0_noteNeeds_47 : decode cX0_noteNeeds 47 = .ok (.iload_n 3, 1) := by decide +kernel
theorem dX0_noteNeeds_48 : decode cX0_noteNeeds 48 = .ok (.iaload, 1) := by decide +kernel
theorem dX0_noteNeeds_49 : decode cX0_noteNeeds 49 = .ok (.iadd, 1) := by decide +kernel
theorem dX0_noteNeeds_50 : decode cX0_noteNeeds 50 = .ok (.aload_n 0, 1) := by decide +kernel
theorem dX0_noteNeeds_51 : decode cX0_noteNeeds 51 = .ok (.getfield 43, 3) := by decide +kernel
theorem dX0_noteNeeds_54 : decode cX0_noteNeeds 54 = .ok (.iload_n 3, 1) := by decide +kernel
theorem dX0_noteNeeds_55 : decode cX0_noteNeeds 55 = .ok (.invokevirtual 92, 3) := by decide +kernel
theorem dX0_noteNeeds_58 : decode cX0_noteNeeds 58 = .ok (.invokevirtual 97, 3) := by decide +kernel
theorem dX0_noteNeeds_61 : decode cX0_noteNeeds 61 = .ok (.aload_n 0, 1) := by decide +kernel
theorem dX0_noteNeeds_62 : decode cX0_noteNeeds 62 = .ok (.getfield 25, 3) := by decide +kernel
theorem dX0_noteNeeds_65 : decode cX0_noteNeeds 65 = .ok (.iload_n 3, 1) := by decide +kernel
theorem dX0_noteNeeds_66 : decode cX0_noteNeeds 66 = .ok (.dup2, 1) := by decide +kernel
theorem dX0_noteNeeds_67 : decode cX0_noteNeeds 67 = .ok (.iaload, 1) := by decide +kernel
theorem dX0_noteNeeds_68 : decode cX0_noteNeeds 68 = .ok (.iconst 1, 1) := by decide +kernel
theorem dX0_noteNeeds_69 : decode cX0_noteNeeds 69 = .ok (.iadd, 1) := by decide +kernel
theorem dX0_noteNeeds_70 : decode cX0_noteNeeds 70 = .ok (.iastore, 1) := by decide +kernel
theorem dX0_noteNeeds_71 : decode cX0_noteNeeds 71 = .ok (.iinc 2 1, 3) := by decide +kernel
theorem dX0_noteNeeds_74 : decode cX0_noteNeeds 74 = .ok (.goto (-64), 3) := by decide +kernel
theorem dX0_noteNeeds_77 : decode cX0_noteNeeds 77 = .ok (.return_, 1) := by decide +kernel
theorem dX0_noteNeed_0 : decode cX0_noteNeed 0 = .ok (.iload_n 1, 1) := by decide +kernel
theorem dX0_noteNeed_1 : decode cX0_noteNeed 1 = .ok (.ifCond .lt 12, 3) := by decide +kernel
theorem dX0_noteNeed_4 : decode cX0_noteNeed 4 = .ok (.iload_n 1, 1) := by decide +kernel
theorem dX0_noteNeed_5 : decode cX0_noteNeed 5 = .ok (.aload_n 0, 1) := by decide +kernel
theorem dX0_noteNeed_6 : decode cX0_noteNeed 6 = .ok (.getfield 30, 3) := by decide +kernel
theorem dX0_noteNeed_9 : decode cX0_noteNeed 9 = .ok (.arraylength, 1) := by decide +kernel
theorem dX0_noteNeed_10 : decode cX0_noteNeed 10 = .ok (.if_icmp .lt 4, 3) := by decide +kernel
theorem dX0_noteNeed_13 : decode cX0_noteNeed 13 = .ok (.return_, 1) := by decide +kernel
theorem dX0_noteNeed_14 : decode cX0_noteNeed 14 = .ok (.aload_n 0, 1) := by decide +kernel
theorem dX0_noteNeed_15 : decode cX0_noteNeed 15 = .ok (.getfield 30, 3) := by decide +kernel
theorem dX0_noteNeed_18 : decode cX0_noteNeed 18 = .ok (.iload_n 1, 1) := by decide +kernel
theorem dX0_noteNeed_19 : decode cX0_noteNeed 19 = .ok (.aaload, 1) := by decide +kernel
theorem dX0_noteNeed_20 : decode cX0_noteNeed 20 = .ok (.astore_n 3, 1) := by decide +kernel
theorem dX0_noteNeed_21 : decode cX0_noteNeed 21 = .ok (.iconst 0, 1) := by decide +kernel
theorem dX0_noteNeed_22 : decode cX0_noteNeed 22 = .ok (.istore 4, 2) := by decide +kernel
theorem dX0_noteNeed_24 : decode cX0_noteNeed 24 = .ok (.iload 4, 2) := by decide +kernel
theorem dX0_noteNeed_26 : decode cX0_noteNeed 26 = .ok (.aload_n 3, 1) := by decide +kernel
theorem dX0_noteNeed_27 : decode cX0_noteNeed 27 = .ok (.arraylength, 1) := by decide +kernel
theorem dX0_noteNeed_28 : decode cX0_noteNeed 28 = .ok (.if_icmp .ge 44, 3) := by decide +kernel
theorem dX0_noteNeed_31 : decode cX0_noteNeed 31 = .ok (.iload 4, 2) := by decide +kernel
theorem dX0_noteNeed_33 : decode cX0_noteNeed 33 = .ok (.aload_n 0, 1) := by decide +kernel
theorem dX0_noteNeed_34 : decode cX0_noteNeed 34 = .ok (.getfield 25, 3) := by decide +kernel
theorem dX0_noteNeed_37 : decode cX0_noteNeed 37 = .ok (.arraylength, 1) := by decide +kernel
theorem dX0_noteNeed_38 : decode cX0_noteNeed 38 = .ok (.if_icmp .ge 34, 3) := by decide +kernel
theorem dX0_noteNeed_41 : decode cX0_noteNeed 41 = .ok (.aload_n 3, 1) := by decide +kernel
theorem dX0_noteNeed_42 : decode cX0_noteNeed 42 = .ok (.iload 4, 2) := by decide +kernel
theorem dX0_noteNeed_44 : decode cX0_noteNeed 44 = .ok (.iload_n 2, 1) := by decide +kernel
theorem dX0_noteNeed_45 : decode cX0_noteNeed 45 = .ok (.iload 4, 2) := by decide +kernel
theorem dX0_noteNeed_47 : decode cX0_noteNeed 47 = .ok (.ishr, 1) := by decide +kernel
theorem dX0_noteNeed_48 : decode cX0_noteNeed 48 = .ok (.iconst 1, 1) := by decide +kernel
theorem dX0_noteNeed_49 : decode cX0_noteNeed 49 = .ok (.iand, 1) := by decide +kernel
theorem dX0_noteNeed_50 : decode cX0_noteNeed 50 = .ok (.iconst 1, 1) := by decide +kernel
theorem dX0_noteNeed_51 : decode cX0_noteNeed 51 = .ok (.if_icmp .ne 13, 3) := by decide +kernel
theorem dX0_noteNeed_54 : decode cX0_noteNeed 54 = .ok (.aload_n 0, 1) := by decide +kernel
theorem dX0_noteNeed_55 : decode cX0_noteNeed 55 = .ok (.getfield 25, 3) := by decide +kernel
theorem dX0_noteNeed_58 : decode cX0_noteNeed 58 = .ok (.iload 4, 2) := by decide +kernel
theorem dX0_noteNeed_60 : decode cX0_noteNeed 60 = .ok (.iaload, 1) := by decide +kernel
theorem dX0_noteNeed_61 : decode cX0_noteNeed 61 = .ok (.goto 4, 3) := by decide +kernel
theorem dX0_noteNeed_64 : decode cX0_noteNeed 64 = .ok (.iconst 0, 1) := by decide +kernel
theorem dX0_noteNeed_65 : decode cX0_noteNeed 65 = .ok (.iastore, 1) := by decide +kernel
theorem dX0_noteNeed_66 : decode cX0_noteNeed 66 = .ok (.iinc 4 1, 3) := by decide +kernel
theorem dX0_noteNeed_69 : decode cX0_noteNeed 69 = .ok (.goto (-45), 3) := by decide +kernel
theorem dX0_noteNeed_72 : decode cX0_noteNeed 72 = .ok (.return_, 1) := by decide +kernel
theorem dX0_goOnFrom_0 : decode cX0_goOnFrom 0 = .ok (.iconst 0, 1) := by decide +kernel
theorem dX0_goOnFrom_1 : decode cX0_goOnFrom 1 = .ok (.istore_n 2, 1) := by decide +kernel
theorem dX0_goOnFrom_2 : decode cX0_goOnFrom 2 = .ok (.iload_n 1, 1) := by decide +kernel
theorem dX0_goOnFrom_3 : decode cX0_goOnFrom 3 = .ok (.ifCond .lt 21, 3) := by decide +kernel
theorem dX0_goOnFrom_6 : decode cX0_goOnFrom 6 = .ok (.iload_n 1, 1) := by decide +kernel
theorem dX0_goOnFrom_7 : decode cX0_goOnFrom 7 = .ok (.aload_n 0, 1) := by decide +kernel
theorem dX0_goOnFrom_8 : decode cX0_goOnFrom 8 = .ok (.getfield 15, 3) := by decide +kernel
theorem dX0_goOnFrom_11 : decode cX0_goOnFrom 11 = .ok (.arraylength, 1) := by decide +kernel
theorem dX0_goOnFrom_12 : decode cX0_goOnFrom 12 = .ok (.if_icmp .ge 12, 3) := by decide +kernel
theorem dX0_goOnFrom_15 : decode cX0_goOnFrom 15 = .ok (.aload_n 0, 1) := by decide +kernel
theorem dX0_goOnFrom_16 : decode cX0_goOnFrom 16 = .ok (.getfield 15, 3) := by decide +kernel
theorem dX0_goOnFrom_19 : decode cX0_goOnFrom 19 = .ok (.iload_n 1, 1) := by decide +kernel
theorem dX0_goOnFrom_20 : decode cX0_goOnFrom 20 = .ok (.iaload, 1) := by decide +kernel
theorem dX0_goOnFrom_21 : decode cX0_goOnFrom 21 = .ok (.goto 4, 3) := by decide +kernel
theorem dX0_goOnFrom_24 : decode cX0_goOnFrom 24 = .ok (.iconst 0, 1) := by decide +kernel
theorem dX0_goOnFrom_25 : decode cX0_goOnFrom 25 = .ok (.istore_n 3, 1) := by decide +kernel
theorem dX0_goOnFrom_26 : decode cX0_goOnFrom 26 = .ok (.iconst 0, 1) := by decide +kernel
theorem dX0_goOnFrom_27 : decode cX0_goOnFrom 27 = .ok (.istore 4, 2) := by decide +kernel
theorem dX0_goOnFrom_29 : decode cX0_goOnFrom 29 = .ok (.iload 4, 2) := by decide +kernel
theorem dX0_goOnFrom_31 : decode cX0_goOnFrom 31 = .ok (.aload_n 0, 1) := by decide +kernel
theorem dX0_goOnFrom_32 : decode cX0_goOnFrom 32 = .ok (.getfield 25, 3) := by decide +kernel
theorem dX0_goOnFrom_35 : decode cX0_goOnFrom 35 = .ok (.arraylength, 1) := by decide +kernel
theorem dX0_goOnFrom_36 : decode cX0_goOnFrom 36 = .ok (.if_icmp .ge 83, 3) := by decide +kernel
theorem dX0_goOnFrom_39 : decode cX0_goOnFrom 39 = .ok (.iload 4, 2) := by decide +kernel
theorem dX0_goOnFrom_41 : decode cX0_goOnFrom 41 = .ok (.aload_n 0, 1) := by decide +kernel
theorem dX0_goOnFrom_42 : decode cX0_goOnFrom 42 = .ok (.getfield 19, 3) := by decide +kernel
theorem dX0_goOnFrom_45 : decode cX0_goOnFrom 45 = .ok (.arraylength, 1) := by decide +kernel
theorem dX0_goOnFrom_46 : decode cX0_goOnFrom 46 = .ok (.if_icmp .ge 73, 3) := by decide +kernel
theorem dX0_goOnFrom_49 : decode cX0_goOnFrom 49 = .ok (.iload 4, 2) := by decide +kernel
theorem dX0_goOnFrom_51 : decode cX0_goOnFrom 51 = .ok (.aload_n 0, 1) := by decide +kernel
theorem dX0_goOnFrom_52 : decode cX0_goOnFrom 52 = .ok (.getfield 22, 3) := by decide +kernel
theorem dX0_goOnFrom_55 : decode cX0_goOnFrom 55 = .ok (.arraylength, 1) := by decide +kernel
theorem dX0_goOnFrom_56 : decode cX0_goOnFrom 56 = .ok (.if_icmp .ge 63, 3) := by decide +kernel
theorem dX0_goOnFrom_59 : decode cX0_goOnFrom 59 = .ok (.aload_n 0, 1) := by decide +kernel
theorem dX0_goOnFrom_60 : decode cX0_goOnFrom 60 = .ok (.getfield 25, 3) := by decide +kernel
theorem dX0_goOnFrom_63 : decode cX0_goOnFrom 63 = .ok (.iload 4, 2) := by decide +kernel
theorem dX0_goOnFrom_65 : decode cX0_goOnFrom 65 = .ok (.iaload, 1) := by decide +kernel
theorem dX0_goOnFrom_66 : decode cX0_goOnFrom 66 = .ok (.aload_n 0, 1) := by decide +kernel
theorem dX0_goOnFrom_67 : decode cX0_goOnFrom 67 = .ok (.getfield 19, 3) := by decide +kernel
theorem dX0_goOnFrom_70 : decode cX0_goOnFrom 70 = .ok (.iload 4, 2) := by decide +kernel
theorem dX0_goOnFrom_72 : decode cX0_goOnFrom 72 = .ok (.iaload, 1) := by decide +kernel
theorem dX0_goOnFrom_73 : decode cX0_goOnFrom 73 = .ok (.if_icmp .ge 40, 3) := by decide +kernel
theorem dX0_goOnFrom_76 : decode cX0_goOnFrom 76 = .ok (.aload_n 0, 1) := by decide +kernel
theorem dX0_goOnFrom_77 : decode cX0_goOnFrom 77 = .ok (.iload 4, 2) := by decide +kernel
theorem dX0_goOnFrom_79 : decode cX0_goOnFrom 79 = .ok (.bipush 24, 2) := by decide +kernel
theorem dX0_goOnFrom_81 : decode cX0_goOnFrom 81 = .ok (.imul, 1) := by decide +kernel
theorem dX0_goOnFrom_82 : decode cX0_goOnFrom 82 = .ok (.aload_n 0, 1) := by decide +kernel
theorem dX0_goOnFrom_83 : decode cX0_goOnFrom 83 = .ok (.getfield 25, 3) := by decide +kernel
theorem dX0_goOnFrom_86 : decode cX0_goOnFrom 86 = .ok (.iload 4, 2) := by decide +kernel
theorem dX0_goOnFrom_88 : decode cX0_goOnFrom 88 = .ok (.iaload, 1) := by decide +kernel
theorem dX0_goOnFrom_89 : decode cX0_goOnFrom 89 = .ok (.iadd, 1) := by decide +kernel
theorem dX0_goOnFrom_90 : decode cX0_goOnFrom 90 = .ok (.invokevirtual 100, 3) := by decide +kernel
theorem dX0_goOnFrom_93 : decode cX0_goOnFrom 93 = .ok (.ifCond .eq 20, 3) := by decide +kernel
theorem dX0_goOnFrom_96 : decode cX0_goOnFrom 96 = .ok (.iinc 2 1, 3) := by decide +kernel
theorem dX0_goOnFrom_99 : decode cX0_goOnFrom 99 = .ok (.aload_n 0, 1) := by decide +kernel
theorem dX0_goOnFrom_100 : decode cX0_goOnFrom 100 = .ok (.iload_n 1, 1) := by decide +kernel
theorem dX0_goOnFrom_101 : decode cX0_goOnFrom 101 = .ok (.aload_n 0, 1) := by decide +kernel
theorem dX0_goOnFrom_102 : decode cX0_goOnFrom 102 = .ok (.getfield 22, 3) := by decide +kernel
theorem dX0_goOnFrom_105 : decode cX0_goOnFrom 105 = .ok (.iload 4, 2) := by decide +kernel
theorem dX0_goOnFrom_107 : decode cX0_goOnFrom 107 = .ok (.iaload, 1) := by decide +kernel
theorem dX0_goOnFrom_108 : decode cX0_goOnFrom 108 = .ok (.iadd, 1) := by decide +kernel
theorem dX0_goOnFrom_109 : decode cX0_goOnFrom 109 = .ok (.iload_n 3, 1) := by decide +kernel
theorem dX0_goOnFrom_110 : decode cX0_goOnFrom 110 = .ok (.invokevirtual 76, 3) := by decide +kernel
theorem dX0_goOnFrom_113 : decode cX0_goOnFrom 113 = .ok (.iinc 4 1, 3) := by decide +kernel
theorem dX0_goOnFrom_116 : decode cX0_goOnFrom 116 = .ok (.goto (-87), 3) := by decide +kernel
theorem dX0_goOnFrom_119 : decode cX0_goOnFrom 119 = .ok (.iload_n 2, 1) := by decide +kernel
theorem dX0_goOnFrom_120 : decode cX0_goOnFrom 120 = .ok (.ireturn, 1) := by decide +kernel
theorem dX0_isOpen_0 : decode cX0_isOpen 0 = .ok (.iload_n 1, 1) := by decide +kernel
theorem dX0_isOpen_1 : decode cX0_isOpen 1 = .ok (.ifCond .lt 12, 3) := by decide +kernel
theorem dX0_isOpen_4 : decode cX0_isOpen 4 = .ok (.iload_n 1, 1) := by decide +kernel
theorem dX0_isOpen_5 : decode cX0_isOpen 5 = .ok (.aload_n 0, 1) := by decide +kernel
theorem dX0_isOpen_6 : decode cX0_isOpen 6 = .ok (.getfield 30, 3) := by decide +kernel
theorem dX0_isOpen_9 : decode cX0_isOpen 9 = .ok (.arraylength, 1) := by decide +kernel
theorem dX0_isOpen_10 : decode cX0_isOpen 10 = .ok (.if_icmp .lt 5, 3) := by decide +kernel
theorem dX0_isOpen_13 : decode cX0_isOpen 13 = .ok (.iconst 0, 1) := by decide +kernel
theorem dX0_isOpen_14 : decode cX0_isOpen 14 = .ok (.ireturn, 1) := by decide +kernel
theorem dX0_isOpen_15 : decode cX0_isOpen 15 = .ok (.aload_n 0, 1) := by decide +kernel
theorem dX0_isOpen_16 : decode cX0_isOpen 16 = .ok (.getfield 30, 3) := by decide +kernel
theorem dX0_isOpen_19 : decode cX0_isOpen 19 = .ok (.iload_n 1, 1) := by decide +kernel
theorem dX0_isOpen_20 : decode cX0_isOpen 20 = .ok (.aaload, 1) := by decide +kernel
theorem dX0_isOpen_21 : decode cX0_isOpen 21 = .ok (.astore_n 2, 1) := by decide +kernel
theorem dX0_isOpen_22 : decode cX0_isOpen 22 = .ok (.iconst 0, 1) := by decide +kernel
theorem dX0_isOpen_23 : decode cX0_isOpen 23 = .ok (.istore_n 3, 1) := by decide +kernel
theorem dX0_isOpen_24 : decode cX0_isOpen 24 = .ok (.iload_n 3, 1) := by decide +kernel
theorem dX0_isOpen_25 : decode cX0_isOpen 25 = .ok (.aload_n 2, 1) := by decide +kernel
theorem dX0_isOpen_26 : decode cX0_isOpen 26 = .ok (.arraylength, 1) := by decide +kernel
theorem dX0_isOpen_27 : decode cX0_isOpen 27 = .ok (.if_icmp .ge 32, 3) := by decide +kernel
theorem dX0_isOpen_30 : decode cX0_isOpen 30 = .ok (.iload_n 3, 1) := by decide +kernel
theorem dX0_isOpen_31 : decode cX0_isOpen 31 = .ok (.aload_n 0, 1) := by decide +kernel
theorem dX0_isOpen_32 : decode cX0_isOpen 32 = .ok (.getfield 25, 3) := by decide +kernel
theorem dX0_isOpen_35 : decode cX0_isOpen 35 = .ok (.arraylength, 1) := by decide +kernel
theorem dX0_isOpen_36 : decode cX0_isOpen 36 = .ok (.if_icmp .ge 23, 3) := by decide +kernel
theorem dX0_isOpen_39 : decode cX0_isOpen 39 = .ok (.aload_n 2, 1) := by decide +kernel
theorem dX0_isOpen_40 : decode cX0_isOpen 40 = .ok (.iload_n 3, 1) := by decide +kernel
theorem dX0_isOpen_41 : decode cX0_isOpen 41 = .ok (.iaload, 1) := by decide +kernel
theorem dX0_isOpen_42 : decode cX0_isOpen 42 = .ok (.aload_n 0, 1) := by decide +kernel
theorem dX0_isOpen_43 : decode cX0_isOpen 43 = .ok (.getfield 25, 3) := by decide +kernel
theorem dX0_isOpen_46 : decode cX0_isOpen 46 = .ok (.iload_n 3, 1) := by decide +kernel
theorem dX0_isOpen_47 : decode cX0_isOpen 47 = .ok (.iaload, 1) := by decide +kernel
theorem dX0_isOpen_48 : decode cX0_isOpen 48 = .ok (.if_icmp .le 5, 3) := by decide +kernel
theorem dX0_isOpen_51 : decode cX0_isOpen 51 = .ok (.iconst 0, 1) := by decide +kernel
theorem dX0_isOpen_52 : decode cX0_isOpen 52 = .ok (.ireturn, 1) := by decide +kernel
theorem dX0_isOpen_53 : decode cX0_isOpen 53 = .ok (.iinc 3 1, 3) := by decide +kernel
theorem dX0_isOpen_56 : decode cX0_isOpen 56 = .ok (.goto (-32), 3) := by decide +kernel
theorem dX0_isOpen_59 : decode cX0_isOpen 59 = .ok (.iconst 1, 1) := by decide +kernel
theorem dX0_isOpen_60 : decode cX0_isOpen 60 = .ok (.ireturn, 1) := by decide +kernel
theorem dX0_reach_0 : decode cX0_reach 0 = .ok (.iload_n 1, 1) := by decide +kernel
theorem dX0_reach_1 : decode cX0_reach 1 = .ok (.ifCond .lt 45, 3) := by decide +kernel
theorem dX0_reach_4 : decode cX0_reach 4 = .ok (.iload_n 1, 1) := by decide +kernel
theorem dX0_reach_5 : decode cX0_reach 5 = .ok (.aload_n 0, 1) := by decide +kernel
theorem dX0_reach_6 : decode cX0_reach 6 = .ok (.getfield 11, 3) := by decide +kernel
theorem dX0_reach_9 : decode cX0_reach 9 = .ok (.arraylength, 1) := by decide +kernel
theorem dX0_reach_10 : decode cX0_reach 10 = .ok (.if_icmp .ge 36, 3) := by decide +kernel
theorem dX0_reach_13 : decode cX0_reach 13 = .ok (.iload_n 1, 1) := by decide +kernel
theorem dX0_reach_14 : decode cX0_reach 14 = .ok (.aload_n 0, 1) := by decide +kernel
theorem dX0_reach_15 : decode cX0_reach 15 = .ok (.getfield 15, 3) := by decide +kernel
theorem dX0_reach_18 : decode cX0_reach 18 = .ok (.arraylength, 1) := by decide +kernel
theorem dX0_reach_19 : decode cX0_reach 19 = .ok (.if_icmp .ge 27, 3) := by decide +kernel
theorem dX0_reach_22 : decode cX0_reach 22 = .ok (.aload_n 0, 1) := by decide +kernel
theorem dX0_reach_23 : decode cX0_reach 23 = .ok (.getfield 11, 3) := by decide +kernel
theorem dX0_reach_26 : decode cX0_reach 26 = .ok (.iload_n 1, 1) := by decide +kernel
theorem dX0_reach_27 : decode cX0_reach 27 = .ok (.iconst 1, 1) := by decide +kernel
theorem dX0_reach_28 : decode cX0_reach 28 = .ok (.bastore, 1) := by decide +kernel
theorem dX0_reach_29 : decode cX0_reach 29 = .ok (.aload_n 0, 1) := by decide +kernel
theorem dX0_reach_30 : decode cX0_reach 30 = .ok (.getfield 15, 3) := by decide +kernel
theorem dX0_reach_33 : decode cX0_reach 33 = .ok (.iload_n 1, 1) := by decide +kernel
theorem dX0_reach_34 : decode cX0_reach 34 = .ok (.aload_n 0, 1) := by decide +kernel
theorem dX0_reach_35 : decode cX0_reach 35 = .ok (.getfield 15, 3) := by decide +kernel
theorem dX0_reach_38 : decode cX0_reach 38 = .ok (.iload_n 1, 1) := by decide +kernel
theorem dX0_reach_39 : decode cX0_reach 39 = .ok (.iaload, 1) := by decide +kernel
theorem dX0_reach_40 : decode cX0_reach 40 = .ok (.iload_n 2, 1) := by decide +kernel
theorem dX0_reach_41 : decode cX0_reach 41 = .ok (.iadd, 1) := by decide +kernel
theorem dX0_reach_42 : decode cX0_reach 42 = .ok (.ldc 104, 2) := by decide +kernel
theorem dX0_reach_44 : decode cX0_reach 44 = .ok (.irem, 1) := by decide +kernel
theorem dX0_reach_45 : decode cX0_reach 45 = .ok (.iastore, 1) := by decide +kernel
theorem dX0_reach_46 : decode cX0_reach 46 = .ok (.return_, 1) := by decide +kernel
theorem dX0_stepCounts_0 : decode cX0_stepCounts 0 = .ok (.iconst 0, 1) := by decide +kernel
theorem dX0_stepCounts_1 : decode cX0_stepCounts 1 = .ok (.istore_n 1, 1) := by decide +kernel
theorem dX0_stepCounts_2 : decode cX0_stepCounts 2 = .ok (.iload_n 1, 1) := by decide +kernel
theorem dX0_stepCounts_3 : decode cX0_stepCounts 3 = .ok (.aload_n 0, 1) := by decide +kernel
theorem dX0_stepCounts_4 : decode cX0_stepCounts 4 = .ok (.getfield 25, 3) := by decide +kernel
theorem dX0_stepCounts_7 : decode cX0_stepCounts 7 = .ok (.arraylength, 1) := by decide +kernel
theorem dX0_stepCounts_8 : decode cX0_stepCounts 8 = .ok (.if_icmp .ge 51, 3) := by decide +kernel
theorem dX0_stepCounts_11 : decode cX0_stepCounts 11 = .ok (.iload_n 1, 1) := by decide +kernel
theorem dX0_stepCounts_12 : decode cX0_stepCounts 12 = .ok (.aload_n 0, 1) := by decide +kernel
theorem dX0_stepCounts_13 : decode cX0_stepCounts 13 = .ok (.getfield 19, 3) := by decide +kernel
theorem dX0_stepCounts_16 : decode cX0_stepCounts 16 = .ok (.arraylength, 1) := by decide +kernel
theorem dX0_stepCounts_17 : decode cX0_stepCounts 17 = .ok (.if_icmp .ge 42, 3) := by decide +kernel
theorem dX0_stepCounts_20 : decode cX0_stepCounts 20 = .ok (.aload_n 0, 1) := by decide +kernel
theorem dX0_stepCounts_21 : decode cX0_stepCounts 21 = .ok (.getfield 25, 3) := by decide +kernel
theorem dX0_stepCounts_24 : decode cX0_stepCounts 24 = .ok (.iload_n 1, 1) := by decide +kernel
theorem dX0_stepCounts_25 : decode cX0_stepCounts 25 = .ok (.iaload, 1) := by decide +kernel
theorem dX0_stepCounts_26 : decode cX0_stepCounts 26 = .ok (.aload_n 0, 1) := by decide +kernel
theorem dX0_stepCounts_27 : decode cX0_stepCounts 27 = .ok (.getfield 19, 3) := by decide +kernel
theorem dX0_stepCounts_30 : decode cX0_stepCounts 30 = .ok (.iload_n 1, 1) := by decide +kernel
theorem dX0_stepCounts_31 : decode cX0_stepCounts 31 = .ok (.iaload, 1) := by decide +kernel
theorem dX0_stepCounts_32 : decode cX0_stepCounts 32 = .ok (.if_icmp .ge 14, 3) := by decide +kernel
theorem dX0_stepCounts_35 : decode cX0_stepCounts 35 = .ok (.aload_n 0, 1) := by decide +kernel
theorem dX0_stepCounts_36 : decode cX0_stepCounts 36 = .ok (.getfield 25, 3) := by decide +kernel
theorem dX0_stepCounts_39 : decode cX0_stepCounts 39 = .ok (.iload_n 1, 1) := by decide +kernel
theorem dX0_stepCounts_40 : decode cX0_stepCounts 40 = .ok (.dup2, 1) := by decide +kernel
theorem dX0_stepCounts_41 : decode cX0_stepCounts 41 = .ok (.iaload, 1) := by decide +kernel
theorem dX0_stepCounts_42 : decode cX0_stepCounts 42 = .ok (.iconst 1, 1) := by decide +kernel
theorem dX0_stepCounts_43 : decode cX0_stepCounts 43 = .ok (.iadd, 1) := by decide +kernel
theorem dX0_stepCounts_44 : decode cX0_stepCounts 44 = .ok (.iastore, 1) := by decide +kernel
theorem dX0_stepCounts_45 : decode cX0_stepCounts 45 = .ok (.return_, 1) := by decide +kernel
theorem dX0_stepCounts_46 : decode cX0_stepCounts 46 = .ok (.aload_n 0, 1) := by decide +kernel
theorem dX0_stepCounts_47 : decode cX0_stepCounts 47 = .ok (.getfield 25, 3) := by decide +kernel
theorem dX0_stepCounts_50 : decode cX0_stepCounts 50 = .ok (.iload_n 1, 1) := by decide +kernel
theorem dX0_stepCounts_51 : decode cX0_stepCounts 51 = .ok (.iconst 0, 1) := by decide +kernel
theorem dX0_stepCounts_52 : decode cX0_stepCounts 52 = .ok (.iastore, 1) := by decide +kernel
theorem dX0_stepCounts_53 : decode cX0_stepCounts 53 = .ok (.iinc 1 1, 3) := by decide +kernel
theorem dX0_stepCounts_56 : decode cX0_stepCounts 56 = .ok (.goto (-54), 3) := by decide +kernel
theorem dX0_stepCounts_59 : decode cX0_stepCounts 59 = .ok (.return_, 1) := by decide +kernel
theorem dX1_init_0 : decode cX1_init 0 = .ok (.aload_n 0, 1) := by decide +kernel
theorem dX1_init_1 : decode cX1_init 1 = .ok (.invokespecial 3, 3) := by decide +kernel
theorem dX1_init_4 : decode cX1_init 4 = .ok (.aload_n 0, 1) := by decide +kernel
theorem dX1_init_5 : decode cX1_init 5 = .ok (.sipush 2000, 3) := by decide +kernel
theorem dX1_init_8 : decode cX1_init 8 = .ok (.newarray .long, 2) := by decide +kernel
theorem dX1_init_10 : decode cX1_init 10 = .ok (.putfield 11, 3) := by decide +kernel
theorem dX1_init_13 : decode cX1_init 13 = .ok (.aload_n 0, 1) := by decide +kernel
theorem dX1_init_14 : decode cX1_init 14 = .ok (.sipush 4096, 3) := by decide +kernel
theorem dX1_init_17 : decode cX1_init 17 = .ok (.newarray .long, 2) := by decide +kernel
theorem dX1_init_19 : decode cX1_init 19 = .ok (.putfield 15, 3) := by decide +kernel
theorem dX1_init_22 : decode cX1_init 22 = .ok (.aload_n 0, 1) := by decide +kernel
theorem dX1_init_23 : decode cX1_init 23 = .ok (.new 18, 3) := by decide +kernel
theorem dX1_init_26 : decode cX1_init 26 = .ok (.dup, 1) := by decide +kernel
theorem dX1_init_27 : decode cX1_init 27 = .ok (.invokespecial 20, 3) := by decide +kernel
theorem dX1_init_30 : decode cX1_init 30 = .ok (.putfield 21, 3) := by decide +kernel
theorem dX1_init_33 : decode cX1_init 33 = .ok (.aload_n 0, 1) := by decide +kernel
theorem dX1_init_34 : decode cX1_init 34 = .ok (.new 18, 3) := by decide +kernel
theorem dX1_init_37 : decode cX1_init 37 = .ok (.dup, 1) := by decide +kernel
theorem dX1_init_38 : decode cX1_init 38 = .ok (.invokespecial 20, 3) := by decide +kernel
theorem dX1_init_41 : decode cX1_init 41 = .ok (.putfield 25, 3) := by decide +kernel
theorem dX1_init_44 : decode cX1_init 44 = .ok (.aload_n 0, 1) := by decide +kernel
theorem dX1_init_45 : decode cX1_init 45 = .ok (.iconst 0, 1) := by decide +kernel
theorem dX1_init_46 : decode cX1_init 46 = .ok (.putfield 28, 3) := by decide +kernel
theorem dX1_init_49 : decode cX1_init 49 = .ok (.aload_n 0, 1) := by decide +kernel
theorem dX1_init_50 : decode cX1_init 50 = .ok (.aload_n 1, 1) := by decide +kernel
theorem dX1_init_51 : decode cX1_init 51 = .ok (.putfield 32, 3) := by decide +kernel
theorem dX1_init_54 : decode cX1_init 54 = .ok (.aload_n 0, 1) := by decide +kernel
theorem dX1_init_55 : decode cX1_init 55 = .ok (.aload_n 2, 1) := by decide +kernel
theorem dX1_init_56 : decode cX1_init 56 = .ok (.putfield 36, 3) := by decide +kernel
theorem dX1_init_59 : decode cX1_init 59 = .ok (.return_, 1) := by decide +kernel
theorem dX1_found_0 : decode cX1_found 0 = .ok (.aload_n 0, 1) := by decide +kernel
theorem dX1_found_1 : decode cX1_found 1 = .ok (.getfield 28, 3) := by decide +kernel
theorem dX1_found_4 : decode cX1_found 4 = .ok (.ireturn, 1) := by decide +kernel
theorem dX1_find_0 : decode cX1_find 0 = .ok (.aload_n 0, 1) := by decide +kernel
theorem dX1_find_1 : decode cX1_find 1 = .ok (.iconst 0, 1) := by decide +kernel
theorem dX1_find_2 : decode cX1_find 2 = .ok (.putfield 28, 3) := by decide +kernel
theorem dX1_find_5 : decode cX1_find 5 = .ok (.aload_n 0, 1) := by decide +kernel
theorem dX1_find_6 : decode cX1_find 6 = .ok (.getfield 15, 3) := by decide +kernel
theorem dX1_find_9 : decode cX1_find 9 = .ok (.lconst 0, 1) := by decide +kernel
theorem dX1_find_10 : decode cX1_find 10 = .ok (.invokestatic 40, 3) := by decide +kernel
theorem dX1_find_13 : decode cX1_find 13 = .ok (.aload_n 0, 1) := by decide +kernel
theorem dX1_find_14 : decode cX1_find 14 = .ok (.aload_n 0, 1) := by decide +kernel
theorem dX1_find_15 : decode cX1_find 15 = .ok (.aload_n 1, 1) := by decide +kernel
theorem dX1_find_16 : decode cX1_find 16 = .ok (.invokevirtual 46, 3) := by decide +kernel
theorem dX1_find_19 : decode cX1_find 19 = .ok (.invokevirtual 50, 3) := by decide +kernel
theorem dX1_find_22 : decode cX1_find 22 = .ok (.ifCond .ne 5, 3) := by decide +kernel
theorem dX1_find_25 : decode cX1_find 25 = .ok (.iconst 0, 1) := by decide +kernel
theorem dX1_find_26 : decode cX1_find 26 = .ok (.ireturn, 1) := by decide +kernel
theorem dX1_find_27 : decode cX1_find 27 = .ok (.iconst 0, 1) := by decide +kernel
theorem dX1_find_28 : decode cX1_find 28 = .ok (.istore_n 2, 1) := by decide +kernel
theorem dX1_find_29 : decode cX1_find 29 = .ok (.iload_n 2, 1) := by decide +kernel
theorem dX1_find_30 : decode cX1_find 30 = .ok (.aload_n 0, 1) := by decide +kernel
theorem dX1_find_31 : decode cX1_find 31 = .ok (.getfield 28, 3) := by decide +kernel
theorem dX1_find_34 : decode cX1_find 34 = .ok (.if_icmp .ge 33, 3) := by decide +kernel
theorem dX1_find_37 : decode cX1_find 37 = .ok (.iload_n 2, 1) := by decide +kernel
theorem dX1_find_38 : decode cX1_find 38 = .ok (.aload_n 0, 1) := by decide +kernel
theorem dX1_find_39 : decode cX1_find 39 = .ok (.getfield 11, 3) := by decide +kernel
theorem dX1_find_42 : decode cX1_find 42 = .ok (.arraylength, 1) := by decide +kernel
theorem dX1_find_43 : decode cX1_find 43 = .ok (.if_icmp .ge 24, 3) := by decide +kernel
theorem dX1_find_46 : decode cX1_find 46 = .ok (.aload_n 0, 1) := by decide +kernel
theorem dX1_find_47 : decode cX1_find 47 = .ok (.aload_n 0, 1) := by decide +kernel
theorem dX1_find_48 : decode cX1_find 48 = .ok (.getfield 11, 3) := by decide +kernel
theorem dX1_find_51 : decode cX1_find 51 = .ok (.iload_n 2, 1) := by decide +kernel
theorem dX1_find_52 : decode cX1_find 52 = .ok (.laload, 1) := by decide +kernel
theorem dX1_find_53 : decode cX1_find 53 = .ok (.invokevirtual 54, 3) := by decide +kernel
theorem dX1_find_56 : decode cX1_find 56 = .ok (.ifCond .ne 5, 3) := by decide +kernel
theorem dX1_find_59 : decode cX1_find 59 = .ok (.iconst 0, 1) := by decide +kernel
theorem dX1_find_60 : decode cX1_find 60 = .ok (.ireturn, 1) := by decide +kernel
theorem dX1_find_61 : decode cX1_find 61 = .ok (.iinc 2 1, 3) := by decide +kernel
theorem dX1_find_64 : decode cX1_find 64 = .ok (.goto (-35), 3) := by decide +kernel
theorem dX1_find_67 : decode cX1_find 67 = .ok (.iconst 1, 1) := by decide +kernel
theorem dX1_find_68 : decode cX1_find 68 = .ok (.ireturn, 1) := by decide +kernel
theorem dX1_holds_0 : decode cX1_holds 0 = .ok (.aload_n 1, 1) := by decide +kernel
theorem dX1_holds_1 : decode cX1_holds 1 = .ok (.invokevirtual 57, 3) := by decide +kernel
theorem dX1_holds_4 : decode cX1_holds 4 = .ok (.bipush 12, 2) := by decide +kernel
theorem dX1_holds_6 : decode cX1_holds 6 = .ok (.if_icmp .le 5, 3) := by decide +kernel
theorem dX1_holds_9 : decode cX1_holds 9 = .ok (.iconst 0, 1) := by decide +kernel
theorem dX1_holds_10 : decode cX1_holds 10 = .ok (.ireturn, 1) := by decide +kernel
theorem dX1_holds_11 : decode cX1_holds 11 = .ok (.aload_n 0, 1) := by decide +kernel
theorem dX1_holds_12 : decode cX1_holds 12 = .ok (.aload_n 1, 1) := by decide +kernel
theorem dX1_holds_13 : decode cX1_holds 13 = .ok (.invokevirtual 46, 3) := by decide +kernel
theorem dX1_holds_16 : decode cX1_holds 16 = .ok (.lstore_n 2, 1) := by decide +kernel
theorem dX1_holds_17 : decode cX1_holds 17 = .ok (.aload_n 0, 1) := by decide +kernel
theorem dX1_holds_18 : decode cX1_holds 18 = .ok (.lload_n 2, 1) := by decide +kernel
theorem dX1_holds_19 : decode cX1_holds 19 = .ok (.invokevirtual 61, 3) := by decide +kernel
theorem dX1_holds_22 : decode cX1_holds 22 = .ok (.istore 4, 2) := by decide +kernel
theorem dX1_holds_24 : decode cX1_holds 24 = .ok (.iload 4, 2) := by decide +kernel
theorem dX1_holds_26 : decode cX1_holds 26 = .ok (.ifCond .lt 29, 3) := by decide +kernel
theorem dX1_holds_29 : decode cX1_holds 29 = .ok (.iload 4, 2) := by decide +kernel
theorem dX1_holds_31 : decode cX1_holds 31 = .ok (.aload_n 0, 1) := by decide +kernel
theorem dX1_holds_32 : decode cX1_holds 32 = .ok (.getfield 15, 3) := by decide +kernel
theorem dX1_holds_35 : decode cX1_holds 35 = .ok (.arraylength, 1) := by decide +kernel
theorem dX1_holds_36 : decode cX1_holds 36 = .ok (.if_icmp .ge 19, 3) := by decide +kernel
theorem dX1_holds_39 : decode cX1_holds 39 = .ok (.aload_n 0, 1) := by decide +kernel
theorem dX1_holds_40 : decode cX1_holds 40 = .ok (.getfield 15, 3) := by decide +kernel
theorem dX1_holds_43 : decode cX1_holds 43 = .ok (.iload 4, 2) := by decide +kernel
theorem dX1_holds_45 : decode cX1_holds 45 = .ok (.laload, 1) := by decide +kernel
theorem dX1_holds_46 : decode cX1_holds 46 = .ok (.lload_n 2, 1) := by decide +kernel
theorem dX1_holds_47 : decode cX1_holds 47 = .ok (.lcmp, 1) := by decide +kernel
theorem dX1_holds_48 : decode cX1_holds 48 = .ok (.ifCond .ne 7, 3) := by decide +kernel
theorem dX1_holds_51 : decode cX1_holds 51 = .ok (.iconst 1, 1) := by decide +kernel
theorem dX1_holds_52 : decode cX1_holds 52 = .ok (.goto 4, 3) := by decide +kernel
theorem dX1_holds_55 : decode cX1_holds 55 = .ok (.iconst 0, 1) := by decide +kernel
theorem dX1_holds_56 : decode cX1_holds 56 = .ok (.ireturn, 1) := by decide +kernel
theorem dX1_keepTurned_0 : decode cX1_keepTurned 0 = .ok (.iconst 0, 1) := by decide +kernel
theorem dX1_keepTurned_1 : decode cX1_keepTurned 1 = .ok (.istore_n 3, 1) := by decide +kernel
theorem dX1_keepTurned_2 : decode cX1_keepTurned 2 = .ok (.iload_n 3, 1) := by decide +kernel
theorem dX1_keepTurned_3 : decode cX1_keepTurned 3 = .ok (.aload_n 0, 1) := by decide +kernel
theorem dX1_keepTurned_4 : decode cX1_keepTurned 4 = .ok (.getfield 32, 3) := by decide +kernel
theorem dX1_keepTurned_7 : decode cX1_keepTurned 7 = .ok (.invokevirtual 65, 3) := by decide +kernel
theorem dX1_keepTurned_10 : decode cX1_keepTurned 10 = .ok (.if_icmp .ge 58, 3) := by decide +kernel
theorem dX1_keepTurned_13 : decode cX1_keepTurned 13 = .ok (.aload_n 0, 1) := by decide +kernel
theorem dX1_keepTurned_14 : decode cX1_keepTurned 14 = .ok (.getfield 21, 3) := by decide +kernel
theorem dX1_keepTurned_17 : decode cX1_keepTurned 17 = .ok (.lload_n 1, 1) := by decide +kernel
theorem dX1_keepTurned_18 : decode cX1_keepTurned 18 = .ok (.invokestatic 70, 3) := by decide +kernel
theorem dX1_keepTurned_21 : decode cX1_keepTurned 21 = .ok (.aload_n 0, 1) := by decide +kernel
theorem dX1_keepTurned_22 : decode cX1_keepTurned 22 = .ok (.getfield 36, 3) := by decide +kernel
theorem dX1_keepTurned_25 : decode cX1_keepTurned 25 = .ok (.aload_n 0, 1) := by decide +kernel
theorem dX1_keepTurned_26 : decode cX1_keepTurned 26 = .ok (.getfield 21, 3) := by decide +kernel
theorem dX1_keepTurned_29 : decode cX1_keepTurned 29 = .ok (.iload_n 3, 1) := by decide +kernel
theorem dX1_keepTurned_30 : decode cX1_keepTurned 30 = .ok (.invokevirtual 74, 3) := by decide +kernel
theorem dX1_keepTurned_33 : decode cX1_keepTurned 33 = .ok (.ifCond .eq 29, 3) := by decide +kernel
theorem dX1_keepTurned_36 : decode cX1_keepTurned 36 = .ok (.aload_n 0, 1) := by decide +kernel
theorem dX1_keepTurned_37 : decode cX1_keepTurned 37 = .ok (.getfield 21, 3) := by decide +kernel
theorem dX1_keepTurned_40 : decode cX1_keepTurned 40 = .ok (.iload_n 3, 1) := by decide +kernel
theorem dX1_keepTurned_41 : decode cX1_keepTurned 41 = .ok (.invokevirtual 80, 3) := by decide +kernel
theorem dX1_keepTurned_44 : decode cX1_keepTurned 44 = .ok (.pop, 1) := by decide +kernel
theorem dX1_keepTurned_45 : decode cX1_keepTurned 45 = .ok (.aload_n 0, 1) := by decide +kernel
theorem dX1_keepTurned_46 : decode cX1_keepTurned 46 = .ok (.aload_n 0, 1) := by decide +kernel
theorem dX1_keepTurned_47 : decode cX1_keepTurned 47 = .ok (.aload_n 0, 1) := by decide +kernel
theorem dX1_keepTurned_48 : decode cX1_keepTurned 48 = .ok (.getfield 21, 3) := by decide +kernel
theorem dX1_keepTurned_51 : decode cX1_keepTurned 51 = .ok (.invokevirtual 46, 3) := by decide +kernel
theorem dX1_keepTurned_54 : decode cX1_keepTurned 54 = .ok (.invokevirtual 50, 3) := by decide +kernel
theorem dX1_keepTurned_57 : decode cX1_keepTurned 57 = .ok (.ifCond .ne 5, 3) := by decide +kernel
theorem dX1_keepTurned_60 : decode cX1_keepTurned 60 = .ok (.iconst 0, 1) := by decide +kernel
theorem dX1_keepTurned_61 : decode cX1_keepTurned 61 = .ok (.ireturn, 1) := by decide +kernel
theorem dX1_keepTurned_62 : decode cX1_keepTurned 62 = .ok (.iinc 3 1, 3) := by decide +kernel
theorem dX1_keepTurned_65 : decode cX1_keepTurned 65 = .ok (.goto (-63), 3) := by decide +kernel
theorem dX1_keepTurned_68 : decode cX1_keepTurned 68 = .ok (.iconst 1, 1) := by decide +kernel
theorem dX1_keepTurned_69 : decode cX1_keepTurned 69 = .ok (.ireturn, 1) := by decide +kernel
theorem dX1_keep_0 : decode cX1_keep 0 = .ok (.aload_n 0, 1) := by decide +kernel
theorem dX1_keep_1 : decode cX1_keep 1 = .ok (.lload_n 1, 1) := by decide +kernel
theorem dX1_keep_2 : decode cX1_keep 2 = .ok (.invokevirtual 61, 3) := by decide +kernel
theorem dX1_keep_5 : decode cX1_keep 5 = .ok (.istore_n 3, 1) := by decide +kernel
theorem dX1_keep_6 : decode cX1_keep 6 = .ok (.iload_n 3, 1) := by decide +kernel
theorem dX1_keep_7 : decode cX1_keep 7 = .ok (.ifCond .lt 12, 3) := by decide +kernel
theorem dX1_keep_10 : decode cX1_keep 10 = .ok (.iload_n 3, 1) := by decide +kernel
theorem dX1_keep_11 : decode cX1_keep 11 = .ok (.aload_n 0, 1) := by decide +kernel
theorem dX1_keep_12 : decode cX1_keep 12 = .ok (.getfield 15, 3) := by decide +kernel
theorem dX1_keep_15 : decode cX1_keep 15 = .ok (.arraylength, 1) := by decide +kernel
theorem dX1_keep_16 : decode cX1_keep 16 = .ok (.if_icmp .lt 5, 3) := by decide +kernel
theorem dX1_keep_19 : decode cX1_keep 19 = .ok (.iconst 0, 1) := by decide +kernel
theorem dX1_keep_20 : decode cX1_keep 20 = .ok (.ireturn, 1) := by decide +kernel
theorem dX1_keep_21 : decode cX1_keep 21 = .ok (.aload_n 0, 1) := by decide +kernel
theorem dX1_keep_22 : decode cX1_keep 22 = .ok (.getfield 15, 3) := by decide +kernel
theorem dX1_keep_25 : decode cX1_keep 25 = .ok (.iload_n 3, 1) := by decide +kernel
theorem dX1_keep_26 : decode cX1_keep 26 = .ok (.laload, 1) := by decide +kernel
theorem dX1_keep_27 : decode cX1_keep 27 = .ok (.lload_n 1, 1) := by decide +kernel
theorem dX1_keep_28 : decode cX1_keep 28 = .ok (.lcmp, 1) := by decide +kernel
theorem dX1_keep_29 : decode cX1_keep 29 = .ok (.ifCond .ne 5, 3) := by decide +kernel
theorem dX1_keep_32 : decode cX1_keep 32 = .ok (.iconst 1, 1) := by decide +kernel
theorem dX1_keep_33 : decode cX1_keep 33 = .ok (.ireturn, 1) := by decide +kernel
theorem dX1_keep_34 : decode cX1_keep 34 = .ok (.aload_n 0, 1) := by decide +kernel
theorem dX1_keep_35 : decode cX1_keep 35 = .ok (.getfield 28, 3) := by decide +kernel
theorem dX1_keep_38 : decode cX1_keep 38 = .ok (.ifCond .lt 15, 3) := by decide +kernel
theorem dX1_keep_41 : decode cX1_keep 41 = .ok (.aload_n 0, 1) := by decide +kernel
theorem dX1_keep_42 : decode cX1_keep 42 = .ok (.getfield 28, 3) := by decide +kernel
theorem dX1_keep_45 : decode cX1_keep 45 = .ok (.aload_n 0, 1) := by decide +kernel
theorem dX1_keep_46 : decode cX1_keep 46 = .ok (.getfield 11, 3) := by decide +kernel
theorem dX1_keep_49 : decode cX1_keep 49 = .ok (.arraylength, 1) := by decide +kernel
theorem dX1_keep_50 : decode cX1_keep 50 = .ok (.if_icmp .lt 5, 3) := by decide +kernel
theorem dX1_keep_53 : decode cX1_keep 53 = .ok (.iconst 0, 1) := by decide +kernel
theorem dX1_keep_54 : decode cX1_keep 54 = .ok (.ireturn, 1) := by decide +kernel
theorem dX1_keep_55 : decode cX1_keep 55 = .ok (.aload_n 0, 1) := by decide +kernel
theorem dX1_keep_56 : decode cX1_keep 56 = .ok (.getfield 15, 3) := by decide +kernel
theorem dX1_keep_59 : decode cX1_keep 59 = .ok (.iload_n 3, 1) := by decide +kernel
theorem dX1_keep_60 : decode cX1_keep 60 = .ok (.lload_n 1, 1) := by decide +kernel
theorem dX1_keep_61 : decode cX1_keep 61 = .ok (.lastore, 1) := by decide +kernel
theorem dX1_keep_62 : decode cX1_keep 62 = .ok (.aload_n 0, 1) := by decide +kernel
theorem dX1_keep_63 : decode cX1_keep 63 = .ok (.getfield 11, 3) := by decide +kernel
theorem dX1_keep_66 : decode cX1_keep 66 = .ok (.aload_n 0, 1) := by decide +kernel
theorem dX1_keep_67 : decode cX1_keep 67 = .ok (.getfield 28, 3) := by decide +kernel
theorem dX1_keep_70 : decode cX1_keep 70 = .ok (.lload_n 1, 1) := by decide +kernel
theorem dX1_keep_71 : decode cX1_keep 71 = .ok (.lastore, 1) := by decide +kernel
theorem dX1_keep_72 : decode cX1_keep 72 = .ok (.aload_n 0, 1) := by decide +kernel
theorem dX1_keep_73 : decode cX1_keep 73 = .ok (.dup, 1) := by decide +kernel
theorem dX1_keep_74 : decode cX1_keep 74 = .ok (.getfield 28, 3) := by decide +kernel
theorem dX1_keep_77 : decode cX1_keep 77 = .ok (.iconst 1, 1) := by decide +kernel
theorem dX1_keep_78 : decode cX1_keep 78 = .ok (.iadd, 1) := by decide +kernel
theorem dX1_keep_79 : decode cX1_keep 79 = .ok (.putfield 28, 3) := by decide +kernel
theorem dX1_keep_82 : decode cX1_keep 82 = .ok (.iconst 1, 1) := by decide +kernel
theorem dX1_keep_83 : decode cX1_keep 83 = .ok (.ireturn, 1) := by decide +kernel
theorem dX1_slotOf_0 : decode cX1_slotOf 0 = .ok (.lload_n 1, 1) := by decide +kernel
theorem dX1_slotOf_1 : decode cX1_slotOf 1 = .ok (.ldc2_w 84, 3) := by decide +kernel
theorem dX1_slotOf_4 : decode cX1_slotOf 4 = .ok (.lmul, 1) := by decide +kernel
theorem dX1_slotOf_5 : decode cX1_slotOf 5 = .ok (.bipush 52, 2) := by decide +kernel
theorem dX1_slotOf_7 : decode cX1_slotOf 7 = .ok (.lushr, 1) := by decide +kernel
theorem dX1_slotOf_8 : decode cX1_slotOf 8 = .ok (.l2i, 1) := by decide +kernel
theorem dX1_slotOf_9 : decode cX1_slotOf 9 = .ok (.istore_n 3, 1) := by decide +kernel
theorem dX1_slotOf_10 : decode cX1_slotOf 10 = .ok (.iconst 0, 1) := by decide +kernel
theorem dX1_slotOf_11 : decode cX1_slotOf 11 = .ok (.istore 4, 2) := by decide +kernel
theorem dX1_slotOf_13 : decode cX1_slotOf 13 = .ok (.iload 4, 2) := by decide +kernel
theorem dX1_slotOf_15 : decode cX1_slotOf 15 = .ok (.aload_n 0, 1) := by decide +kernel
theorem dX1_slotOf_16 : decode cX1_slotOf 16 = .ok (.getfield 15, 3) := by decide +kernel
theorem dX1_slotOf_19 : decode cX1_slotOf 19 = .ok (.arraylength, 1) := by decide +kernel
theorem dX1_slotOf_20 : decode cX1_slotOf 20 = .ok (.if_icmp .ge 61, 3) := by decide +kernel
theorem dX1_slotOf_23 : decode cX1_slotOf 23 = .ok (.iload_n 3, 1) := by decide +kernel
theorem dX1_slotOf_24 : decode cX1_slotOf 24 = .ok (.iload 4, 2) := by decide +kernel
theorem dX1_slotOf_26 : decode cX1_slotOf 26 = .ok (.iadd, 1) := by decide +kernel
theorem dX1_slotOf_27 : decode cX1_slotOf 27 = .ok (.sipush 4095, 3) := by decide +kernel
theorem dX1_slotOf_30 : decode cX1_slotOf 30 = .ok (.iand, 1) := by decide +kernel
theorem dX1_slotOf_31 : decode cX1_slotOf 31 = .ok (.istore 5, 2) := by decide +kernel
theorem dX1_slotOf_33 : decode cX1_slotOf 33 = .ok (.iload 5, 2) := by decide +kernel
theorem dX1_slotOf_35 : decode cX1_slotOf 35 = .ok (.ifCond .lt 40, 3) := by decide +kernel
theorem dX1_slotOf_38 : decode cX1_slotOf 38 = .ok (.iload 5, 2) := by decide +kernel
theorem dX1_slotOf_40 : decode cX1_slotOf 40 = .ok (.aload_n 0, 1) := by decide +kernel
theorem dX1_slotOf_41 : decode cX1_slotOf 41 = .ok (.getfield 15, 3) := by decide +kernel
theorem dX1_slotOf_44 : decode cX1_slotOf 44 = .ok (.arraylength, 1) := by decide +kernel
theorem dX1_slotOf_45 : decode cX1_slotOf 45 = .ok (.if_icmp .ge 30, 3) := by decide +kernel
theorem dX1_slotOf_48 : decode cX1_slotOf 48 = .ok (.aload_n 0, 1) := by decide +kernel
theorem dX1_slotOf_49 : decode cX1_slotOf 49 = .ok (.getfield 15, 3) := by decide +kernel
theorem dX1_slotOf_52 : decode cX1_slotOf 52 = .ok (.iload 5, 2) := by decide +kernel
theorem dX1_slotOf_54 : decode cX1_slotOf 54 = .ok (.laload, 1) := by decide +kernel
theorem dX1_slotOf_55 : decode cX1_slotOf 55 = .ok (.lconst 0, 1) := by decide +kernel
theorem dX1_slotOf_56 : decode cX1_slotOf 56 = .ok (.lcmp, 1) := by decide +kernel
theorem dX1_slotOf_57 : decode cX1_slotOf 57 = .ok (.ifCond .eq 15, 3) := by decide +kernel
theorem dX1_slotOf_60 : decode cX1_slotOf 60 = .ok (.aload_n 0, 1) := by decide +kernel
theorem dX1_slotOf_61 : decode cX1_slotOf 61 = .ok (.getfield 15, 3) := by decide +kernel
theorem dX1_slotOf_64 : decode cX1_slotOf 64 = .ok (.iload 5, 2) := by decide +kernel
theorem dX1_slotOf_66 : decode cX1_slotOf 66 = .ok (.laload, 1) := by decide +kernel
theorem dX1_slotOf_67 : decode cX1_slotOf 67 = .ok (.lload_n 1, 1) := by decide +kernel
theorem dX1_slotOf_68 : decode cX1_slotOf 68 = .ok (.lcmp, 1) := by decide +kernel
theorem dX1_slotOf_69 : decode cX1_slotOf 69 = .ok (.ifCond .ne 6, 3) := by decide +kernel
theorem dX1_slotOf_72 : decode cX1_slotOf 72 = .ok (.iload 5, 2) := by decide +kernel
theorem dX1_slotOf_74 : decode cX1_slotOf 74 = .ok (.ireturn, 1) := by decide +kernel
theorem dX1_slotOf_75 : decode cX1_slotOf 75 = .ok (.iinc 4 1, 3) := by decide +kernel
theorem dX1_slotOf_78 : decode cX1_slotOf 78 = .ok (.goto (-65), 3) := by decide +kernel
theorem dX1_slotOf_81 : decode cX1_slotOf 81 = .ok (.iconst (-1), 1) := by decide +kernel
theorem dX1_slotOf_82 : decode cX1_slotOf 82 = .ok (.ireturn, 1) := by decide +kernel
theorem dX1_leastNumber_0 : decode cX1_leastNumber 0 = .ok (.aload_n 0, 1) := by decide +kernel
theorem dX1_leastNumber_1 : decode cX1_leastNumber 1 = .ok (.getfield 36, 3) := by decide +kernel
theorem dX1_leastNumber_4 : decode cX1_leastNumber 4 = .ok (.aload_n 1, 1) := by decide +kernel
theorem dX1_leastNumber_5 : decode cX1_leastNumber 5 = .ok (.aload_n 0, 1) := by decide +kernel
theorem dX1_leastNumber_6 : decode cX1_leastNumber 6 = .ok (.getfield 25, 3) := by decide +kernel
theorem dX1_leastNumber_9 : decode cX1_leastNumber 9 = .ok (.invokevirtual 86, 3) := by decide +kernel
theorem dX1_leastNumber_12 : decode cX1_leastNumber 12 = .ok (.lconst 1, 1) := by decide +kernel
theorem dX1_leastNumber_13 : decode cX1_leastNumber 13 = .ok (.lstore_n 2, 1) := by decide +kernel
theorem dX1_leastNumber_14 : decode cX1_leastNumber 14 = .ok (.iconst 0, 1) := by decide +kernel
theorem dX1_leastNumber_15 : decode cX1_leastNumber 15 = .ok (.istore 4, 2) := by decide +kernel
theorem dX1_leastNumber_17 : decode cX1_leastNumber 17 = .ok (.iload 4, 2) := by decide +kernel
theorem dX1_leastNumber_19 : decode cX1_leastNumber 19 = .ok (.aload_n 0, 1) := by decide +kernel
theorem dX1_leastNumber_20 : decode cX1_leastNumber 20 = .ok (.getfield 25, 3) := by decide +kernel
theorem dX1_leastNumber_23 : decode cX1_leastNumber 23 = .ok (.invokevirtual 57, 3) := by decide +kernel
theorem dX1_leastNumber_26 : decode cX1_leastNumber 26 = .ok (.if_icmp .ge 24, 3) := by decide +kernel
theorem dX1_leastNumber_29 : decode cX1_leastNumber 29 = .ok (.lload_n 2, 1) := by decide +kernel
theorem dX1_leastNumber_30 : decode cX1_leastNumber 30 = .ok (.iconst 3, 1) := by decide +kernel
theorem dX1_leastNumber_31 : decode cX1_leastNumber 31 = .ok (.lshl, 1) := by decide +kernel
theorem dX1_leastNumber_32 : decode cX1_leastNumber 32 = .ok (.aload_n 0, 1) := by decide +kernel
theorem dX1_leastNumber_33 : decode cX1_leastNumber 33 = .ok (.getfield 25, 3) := by decide +kernel
theorem dX1_leastNumber_36 : decode cX1_leastNumber 36 = .ok (.iload 4, 2) := by decide +kernel
theorem dX1_leastNumber_38 : decode cX1_leastNumber 38 = .ok (.invokevirtual 90, 3) := by decide +kernel
theorem dX1_leastNumber_41 : decode cX1_leastNumber 41 = .ok (.i2l, 1) := by decide +kernel
theorem dX1_leastNumber_42 : decode cX1_leastNumber 42 = .ok (.lor, 1) := by decide +kernel
theorem dX1_leastNumber_43 : decode cX1_leastNumber 43 = .ok (.lstore_n 2, 1) := by decide +kernel
theorem dX1_leastNumber_44 : decode cX1_leastNumber 44 = .ok (.iinc 4 1, 3) := by decide +kernel
theorem dX1_leastNumber_47 : decode cX1_leastNumber 47 = .ok (.goto (-30), 3) := by decide +kernel
theorem dX1_leastNumber_50 : decode cX1_leastNumber 50 = .ok (.lload_n 2, 1) := by decide +kernel
theorem dX1_leastNumber_51 : decode cX1_leastNumber 51 = .ok (.lreturn, 1) := by decide +kernel
theorem dX1_setRow_0 : decode cX1_setRow 0 = .ok (.aload_n 0, 1) := by decide +kernel
theorem dX1_setRow_1 : decode cX1_setRow 1 = .ok (.invokevirtual 94, 3) := by decide +kernel
theorem dX1_setRow_4 : decode cX1_setRow 4 = .ok (.bipush 33, 2) := by decide +kernel
theorem dX1_setRow_6 : decode cX1_setRow 6 = .ok (.istore_n 3, 1) := by decide +kernel
theorem dX1_setRow_7 : decode cX1_setRow 7 = .ok (.iload_n 3, 1) := by decide +kernel
theorem dX1_setRow_8 : decode cX1_setRow 8 = .ok (.ifCond .lt 32, 3) := by decide +kernel
theorem dX1_setRow_11 : decode cX1_setRow 11 = .ok (.lload_n 1, 1) := by decide +kernel
theorem dX1_setRow_12 : decode cX1_setRow 12 = .ok (.iload_n 3, 1) := by decide +kernel
theorem dX1_setRow_13 : decode cX1_setRow 13 = .ok (.iconst 3, 1) := by decide +kernel
theorem dX1_setRow_14 : decode cX1_setRow 14 = .ok (.iadd, 1) := by decide +kernel
theorem dX1_setRow_15 : decode cX1_setRow 15 = .ok (.lshr, 1) := by decide +kernel
theorem dX1_setRow_16 : decode cX1_setRow 16 = .ok (.lconst 0, 1) := by decide +kernel
theorem dX1_setRow_17 : decode cX1_setRow 17 = .ok (.lcmp, 1) := by decide +kernel
theorem dX1_setRow_18 : decode cX1_setRow 18 = .ok (.ifCond .eq 16, 3) := by decide +kernel
theorem dX1_setRow_21 : decode cX1_setRow 21 = .ok (.aload_n 0, 1) := by decide +kernel
theorem dX1_setRow_22 : decode cX1_setRow 22 = .ok (.lload_n 1, 1) := by decide +kernel
theorem dX1_setRow_23 : decode cX1_setRow 23 = .ok (.iload_n 3, 1) := by decide +kernel
theorem dX1_setRow_24 : decode cX1_setRow 24 = .ok (.lshr, 1) := by decide +kernel
theorem dX1_setRow_25 : decode cX1_setRow 25 = .ok (.ldc2_w 97, 3) := by decide +kernel
theorem dX1_setRow_28 : decode cX1_setRow 28 = .ok (.land, 1) := by decide +kernel
theorem dX1_setRow_29 : decode cX1_setRow 29 = .ok (.l2i, 1) := by decide +kernel
theorem dX1_setRow_30 : decode cX1_setRow 30 = .ok (.invokevirtual 80, 3) := by decide +kernel
theorem dX1_setRow_33 : decode cX1_setRow 33 = .ok (.pop, 1) := by decide +kernel
theorem dX1_setRow_34 : decode cX1_setRow 34 = .ok (.iinc 3 (-3), 3) := by decide +kernel
theorem dX1_setRow_37 : decode cX1_setRow 37 = .ok (.goto (-30), 3) := by decide +kernel
theorem dX1_setRow_40 : decode cX1_setRow 40 = .ok (.return_, 1) := by decide +kernel
theorem dX2_init_0 : decode cX2_init 0 = .ok (.aload_n 0, 1) := by decide +kernel
theorem dX2_init_1 : decode cX2_init 1 = .ok (.invokespecial 3, 3) := by decide +kernel
theorem dX2_init_4 : decode cX2_init 4 = .ok (.aload_n 0, 1) := by decide +kernel
theorem dX2_init_5 : decode cX2_init 5 = .ok (.new 9, 3) := by decide +kernel
theorem dX2_init_8 : decode cX2_init 8 = .ok (.dup, 1) := by decide +kernel
theorem dX2_init_9 : decode cX2_init 9 = .ok (.invokespecial 11, 3) := by decide +kernel
theorem dX2_init_12 : decode cX2_init 12 = .ok (.putfield 12, 3) := by decide +kernel
theorem dX2_init_15 : decode cX2_init 15 = .ok (.aload_n 0, 1) := by decide +kernel
theorem dX2_init_16 : decode cX2_init 16 = .ok (.new 9, 3) := by decide +kernel
theorem dX2_init_19 : decode cX2_init 19 = .ok (.dup, 1) := by decide +kernel
theorem dX2_init_20 : decode cX2_init 20 = .ok (.invokespecial 11, 3) := by decide +kernel
theorem dX2_init_23 : decode cX2_init 23 = .ok (.putfield 18, 3) := by decide +kernel
theorem dX2_init_26 : decode cX2_init 26 = .ok (.aload_n 0, 1) := by decide +kernel
theorem dX2_init_27 : decode cX2_init 27 = .ok (.new 9, 3) := by decide +kernel
theorem dX2_init_30 : decode cX2_init 30 = .ok (.dup, 1) := by decide +kernel
theorem dX2_init_31 : decode cX2_init 31 = .ok (.invokespecial 11, 3) := by decide +kernel
theorem dX2_init_34 : decode cX2_init 34 = .ok (.putfield 21, 3) := by decide +kernel
theorem dX2_init_37 : decode cX2_init 37 = .ok (.aload_n 0, 1) := by decide +kernel
theorem dX2_init_38 : decode cX2_init 38 = .ok (.aload_n 1, 1) := by decide +kernel
theorem dX2_init_39 : decode cX2_init 39 = .ok (.putfield 24, 3) := by decide +kernel
theorem dX2_init_42 : decode cX2_init 42 = .ok (.return_, 1) := by decide +kernel
theorem dX2_letters_0 : decode cX2_letters 0 = .ok (.aload_n 0, 1) := by decide +kernel
theorem dX2_letters_1 : decode cX2_letters 1 = .ok (.getfield 24, 3) := by decide +kernel
theorem dX2_letters_4 : decode cX2_letters 4 = .ok (.areturn, 1) := by decide +kernel
theorem dX2_frontPlace_0 : decode cX2_frontPlace 0 = .ok (.aload_n 0, 1) := by decide +kernel
theorem dX2_frontPlace_1 : decode cX2_frontPlace 1 = .ok (.getfield 24, 3) := by decide +kernel
theorem dX2_frontPlace_4 : decode cX2_frontPlace 4 = .ok (.iload_n 2, 1) := by decide +kernel
theorem dX2_frontPlace_5 : decode cX2_frontPlace 5 = .ok (.invokevirtual 28, 3) := by decide +kernel
theorem dX2_frontPlace_8 : decode cX2_frontPlace 8 = .ok (.istore_n 3, 1) := by decide +kernel
theorem dX2_frontPlace_9 : decode cX2_frontPlace 9 = .ok (.iconst 0, 1) := by decide +kernel
theorem dX2_frontPlace_10 : decode cX2_frontPlace 10 = .ok (.istore 4, 2) := by decide +kernel
theorem dX2_frontPlace_12 : decode cX2_frontPlace 12 = .ok (.iload 4, 2) := by decide +kernel
theorem dX2_frontPlace_14 : decode cX2_frontPlace 14 = .ok (.aload_n 1, 1) := by decide +kernel
theorem dX2_frontPlace_15 : decode cX2_frontPlace 15 = .ok (.invokevirtual 34, 3) := by decide +kernel
theorem dX2_frontPlace_18 : decode cX2_frontPlace 18 = .ok (.if_icmp .ge 40, 3) := by decide +kernel
theorem dX2_frontPlace_21 : decode cX2_frontPlace 21 = .ok (.iload_n 3, 1) := by decide +kernel
theorem dX2_frontPlace_22 : decode cX2_frontPlace 22 = .ok (.aload_n 1, 1) := by decide +kernel
theorem dX2_frontPlace_23 : decode cX2_frontPlace 23 = .ok (.iload 4, 2) := by decide +kernel
theorem dX2_frontPlace_25 : decode cX2_frontPlace 25 = .ok (.invokevirtual 38, 3) := by decide +kernel
theorem dX2_frontPlace_28 : decode cX2_frontPlace 28 = .ok (.ishr, 1) := by decide +kernel
theorem dX2_frontPlace_29 : decode cX2_frontPlace 29 = .ok (.iconst 1, 1) := by decide +kernel
theorem dX2_frontPlace_30 : decode cX2_frontPlace 30 = .ok (.iand, 1) := by decide +kernel
theorem dX2_frontPlace_31 : decode cX2_frontPlace 31 = .ok (.iconst 1, 1) := by decide +kernel
theorem dX2_frontPlace_32 : decode cX2_frontPlace 32 = .ok (.if_icmp .ne 20, 3) := by decide +kernel
theorem dX2_frontPlace_35 : decode cX2_frontPlace 35 = .ok (.aload_n 1, 1) := by decide +kernel
theorem dX2_frontPlace_36 : decode cX2_frontPlace 36 = .ok (.iload 4, 2) := by decide +kernel
theorem dX2_frontPlace_38 : decode cX2_frontPlace 38 = .ok (.invokevirtual 38, 3) := by decide +kernel
theorem dX2_frontPlace_41 : decode cX2_frontPlace 41 = .ok (.iload_n 2, 1) := by decide +kernel
theorem dX2_frontPlace_42 : decode cX2_frontPlace 42 = .ok (.if_icmp .ne 8, 3) := by decide +kernel
theorem dX2_frontPlace_45 : decode cX2_frontPlace 45 = .ok (.iload 4, 2) := by decide +kernel
theorem dX2_frontPlace_47 : decode cX2_frontPlace 47 = .ok (.goto 4, 3) := by decide +kernel
theorem dX2_frontPlace_50 : decode cX2_frontPlace 50 = .ok (.iconst (-1), 1) := by decide +kernel
theorem dX2_frontPlace_51 : decode cX2_frontPlace 51 = .ok (.ireturn, 1) := by decide +kernel
theorem dX2_frontPlace_52 : decode cX2_frontPlace 52 = .ok (.iinc 4 1, 3) := by decide +kernel
theorem dX2_frontPlace_55 : decode cX2_frontPlace 55 = .ok (.goto (-43), 3) := by decide +kernel
theorem dX2_frontPlace_58 : decode cX2_frontPlace 58 = .ok (.iconst (-1), 1) := by decide +kernel
theorem dX2_frontPlace_59 : decode cX2_frontPlace 59 = .ok (.ireturn, 1) := by decide +kernel
theorem dX2_canTakeOff_0 : decode cX2_canTakeOff 0 = .ok (.aload_n 0, 1) := by decide +kernel
theorem dX2_canTakeOff_1 : decode cX2_canTakeOff 1 = .ok (.aload_n 1, 1) := by decide +kernel
theorem dX2_canTakeOff_2 : decode cX2_canTakeOff 2 = .ok (.iload_n 2, 1) := by decide +kernel
theorem dX2_canTakeOff_3 : decode cX2_canTakeOff 3 = .ok (.invokevirtual 41, 3) := by decide +kernel
theorem dX2_canTakeOff_6 : decode cX2_canTakeOff 6 = .ok (.iconst (-1), 1) := by decide +kernel
theorem dX2_canTakeOff_7 : decode cX2_canTakeOff 7 = .ok (.if_icmp .eq 7, 3) := by decide +kernel
theorem dX2_canTakeOff_10 : decode cX2_canTakeOff 10 = .ok (.iconst 1, 1) := by decide +kernel
theorem dX2_canTakeOff_11 : decode cX2_canTakeOff 11 = .ok (.goto 4, 3) := by decide +kernel
theorem dX2_canTakeOff_14 : decode cX2_canTakeOff 14 = .ok (.iconst 0, 1) := by decide +kernel
theorem dX2_canTakeOff_15 : decode cX2_canTakeOff 15 = .ok (.ireturn, 1) := by decide +kernel
theorem dX2_takeOff_0 : decode cX2_takeOff 0 = .ok (.aload_n 0, 1) := by decide +kernel
theorem dX2_takeOff_1 : decode cX2_takeOff 1 = .ok (.aload_n 1, 1) := by decide +kernel
theorem dX2_takeOff_2 : decode cX2_takeOff 2 = .ok (.iload_n 2, 1) := by decide +kernel
theorem dX2_takeOff_3 : decode cX2_takeOff 3 = .ok (.invokevirtual 41, 3) := by decide +kernel
theorem dX2_takeOff_6 : decode cX2_takeOff 6 = .ok (.istore_n 3, 1) := by decide +kernel
theorem dX2_takeOff_7 : decode cX2_takeOff 7 = .ok (.aload_n 1, 1) := by decide +kernel
theorem dX2_takeOff_8 : decode cX2_takeOff 8 = .ok (.iload_n 3, 1) := by decide +kernel
theorem dX2_takeOff_9 : decode cX2_takeOff 9 = .ok (.invokevirtual 45, 3) := by decide +kernel
theorem dX2_takeOff_12 : decode cX2_takeOff 12 = .ok (.iload_n 3, 1) := by decide +kernel
theorem dX2_takeOff_13 : decode cX2_takeOff 13 = .ok (.iconst (-1), 1) := by decide +kernel
theorem dX2_takeOff_14 : decode cX2_takeOff 14 = .ok (.if_icmp .eq 7, 3) := by decide +kernel
theorem dX2_takeOff_17 : decode cX2_takeOff 17 = .ok (.iconst 1, 1) := by decide +kernel
theorem dX2_takeOff_18 : decode cX2_takeOff 18 = .ok (.goto 4, 3) := by decide +kernel
theorem dX2_takeOff_21 : decode cX2_takeOff 21 = .ok (.iconst 0, 1) := by decide +kernel
theorem dX2_takeOff_22 : decode cX2_takeOff 22 = .ok (.ireturn, 1) := by decide +kernel
theorem dX2_makeLeast_0 : decode cX2_makeLeast 0 = .ok (.aload_n 0, 1) := by decide +kernel
theorem dX2_makeLeast_1 : decode cX2_makeLeast 1 = .ok (.getfield 12, 3) := by decide +kernel
theorem dX2_makeLeast_4 : decode cX2_makeLeast 4 = .ok (.aload_n 1, 1) := by decide +kernel
theorem dX2_makeLeast_5 : decode cX2_makeLeast 5 = .ok (.invokevirtual 49, 3) := by decide +kernel
theorem dX2_makeLeast_8 : decode cX2_makeLeast 8 = .ok (.aload_n 2, 1) := by decide +kernel
theorem dX2_makeLeast_9 : decode cX2_makeLeast 9 = .ok (.invokevirtual 53, 3) := by decide +kernel
theorem dX2_makeLeast_12 : decode cX2_makeLeast 12 = .ok (.aload_n 0, 1) := by decide +kernel
theorem dX2_makeLeast_13 : decode cX2_makeLeast 13 = .ok (.getfield 12, 3) := by decide +kernel
theorem dX2_makeLeast_16 : decode cX2_makeLeast 16 = .ok (.invokevirtual 34, 3) := by decide +kernel
theorem dX2_makeLeast_19 : decode cX2_makeLeast 19 = .ok (.istore_n 3, 1) := by decide +kernel
theorem dX2_makeLeast_20 : decode cX2_makeLeast 20 = .ok (.iload_n 3, 1) := by decide +kernel
theorem dX2_makeLeast_21 : decode cX2_makeLeast 21 = .ok (.ifCond .le 42, 3) := by decide +kernel
theorem dX2_makeLeast_24 : decode cX2_makeLeast 24 = .ok (.aload_n 0, 1) := by decide +kernel
theorem dX2_makeLeast_25 : decode cX2_makeLeast 25 = .ok (.aload_n 0, 1) := by decide +kernel
theorem dX2_makeLeast_26 : decode cX2_makeLeast 26 = .ok (.getfield 12, 3) := by decide +kernel
theorem dX2_makeLeast_29 : decode cX2_makeLeast 29 = .ok (.invokevirtual 56, 3) := by decide +kernel
theorem dX2_makeLeast_32 : decode cX2_makeLeast 32 = .ok (.istore 4, 2) := by decide +kernel
theorem dX2_makeLeast_34 : decode cX2_makeLeast 34 = .ok (.aload_n 2, 1) := by decide +kernel
theorem dX2_makeLeast_35 : decode cX2_makeLeast 35 = .ok (.aload_n 0, 1) := by decide +kernel
theorem dX2_makeLeast_36 : decode cX2_makeLeast 36 = .ok (.getfield 12, 3) := by decide +kernel
theorem dX2_makeLeast_39 : decode cX2_makeLeast 39 = .ok (.iload 4, 2) := by decide +kernel
theorem dX2_makeLeast_41 : decode cX2_makeLeast 41 = .ok (.invokevirtual 38, 3) := by decide +kernel
theorem dX2_makeLeast_44 : decode cX2_makeLeast 44 = .ok (.invokevirtual 60, 3) := by decide +kernel
theorem dX2_makeLeast_47 : decode cX2_makeLeast 47 = .ok (.pop, 1) := by decide +kernel
theorem dX2_makeLeast_48 : decode cX2_makeLeast 48 = .ok (.aload_n 0, 1) := by decide +kernel
theorem dX2_makeLeast_49 : decode cX2_makeLeast 49 = .ok (.getfield 12, 3) := by decide +kernel
theorem dX2_makeLeast_52 : decode cX2_makeLeast 52 = .ok (.iload 4, 2) := by decide +kernel
theorem dX2_makeLeast_54 : decode cX2_makeLeast 54 = .ok (.invokevirtual 45, 3) := by decide +kernel
theorem dX2_makeLeast_57 : decode cX2_makeLeast 57 = .ok (.iinc 3 (-1), 3) := by decide +kernel
theorem dX2_makeLeast_60 : decode cX2_makeLeast 60 = .ok (.goto (-40), 3) := by decide +kernel
theorem dX2_makeLeast_63 : decode cX2_makeLeast 63 = .ok (.return_, 1) := by decide +kernel
theorem dX2_leastFrontPlace_0 : decode cX2_leastFrontPlace 0 = .ok (.iconst 0, 1) := by decide +kernel
theorem dX2_leastFrontPlace_1 : decode cX2_leastFrontPlace 1 = .ok (.istore_n 2, 1) := by decide +kernel
theorem dX2_leastFrontPlace_2 : decode cX2_leastFrontPlace 2 = .ok (.iconst 0, 1) := by decide +kernel
theorem dX2_leastFrontPlace_3 : decode cX2_leastFrontPlace 3 = .ok (.istore_n 3, 1) := by decide +kernel
theorem dX2_leastFrontPlace_4 : decode cX2_leastFrontPlace 4 = .ok (.iconst 0, 1) := by decide +kernel
theorem dX2_leastFrontPlace_5 : decode cX2_leastFrontPlace 5 = .ok (.istore 4, 2) := by decide +kernel
theorem dX2_leastFrontPlace_7 : decode cX2_leastFrontPlace 7 = .ok (.iload 4, 2) := by decide +kernel
theorem dX2_leastFrontPlace_9 : decode cX2_leastFrontPlace 9 = .ok (.aload_n 1, 1) := by decide +kernel
theorem dX2_leastFrontPlace_10 : decode cX2_leastFrontPlace 10 = .ok (.invokevirtual 34, 3) := by decide +kernel
theorem dX2_leastFrontPlace_13 : decode cX2_leastFrontPlace 13 = .ok (.if_icmp .ge 51, 3) := by decide +kernel
theorem dX2_leastFrontPlace_16 : decode cX2_leastFrontPlace 16 = .ok (.aload_n 1, 1) := by decide +kernel
theorem dX2_leastFrontPlace_17 : decode cX2_leastFrontPlace 17 = .ok (.iload 4, 2) := by decide +kernel
theorem dX2_leastFrontPlace_19 : decode cX2_leastFrontPlace 19 = .ok (.invokevirtual 38, 3) := by decide +kernel
theorem dX2_leastFrontPlace_22 : decode cX2_leastFrontPlace 22 = .ok (.istore 5, 2) := by decide +kernel
theorem dX2_leastFrontPlace_24 : decode cX2_leastFrontPlace 24 = .ok (.iload_n 2, 1) := by decide +kernel
theorem dX2_leastFrontPlace_25 : decode cX2_leastFrontPlace 25 = .ok (.iload 5, 2) := by decide +kernel
theorem dX2_leastFrontPlace_27 : decode cX2_leastFrontPlace 27 = .ok (.ishr, 1) := by decide +kernel
theorem dX2_leastFrontPlace_28 : decode cX2_leastFrontPlace 28 = .ok (.iconst 1, 1) := by decide +kernel
theorem dX2_leastFrontPlace_29 : decode cX2_leastFrontPlace 29 = .ok (.iand, 1) := by decide +kernel
theorem dX2_leastFrontPlace_30 : decode cX2_leastFrontPlace 30 = .ok (.ifCond .ne 16, 3) := by decide +kernel
theorem dX2_leastFrontPlace_33 : decode cX2_leastFrontPlace 33 = .ok (.iload 5, 2) := by decide +kernel
theorem dX2_leastFrontPlace_35 : decode cX2_leastFrontPlace 35 = .ok (.aload_n 1, 1) := by decide +kernel
theorem dX2_leastFrontPlace_36 : decode cX2_leastFrontPlace 36 = .ok (.iload_n 3, 1) := by decide +kernel
theorem dX2_leastFrontPlace_37 : decode cX2_leastFrontPlace 37 = .ok (.invokevirtual 38, 3) := by decide +kernel
theorem dX2_leastFrontPlace_40 : decode cX2_leastFrontPlace 40 = .ok (.if_icmp .ge 6, 3) := by decide +kernel
theorem dX2_leastFrontPlace_43 : decode cX2_leastFrontPlace 43 = .ok (.iload 4, 2) := by decide +kernel
theorem dX2_leastFrontPlace_45 : decode cX2_leastFrontPlace 45 = .ok (.istore_n 3, 1) := by decide +kernel
theorem dX2_leastFrontPlace_46 : decode cX2_leastFrontPlace 46 = .ok (.iload_n 2, 1) := by decide +kernel
theorem dX2_leastFrontPlace_47 : decode cX2_leastFrontPlace 47 = .ok (.aload_n 0, 1) := by decide +kernel
theorem dX2_leastFrontPlace_48 : decode cX2_leastFrontPlace 48 = .ok (.getfield 24, 3) := by decide +kernel
theorem dX2_leastFrontPlace_51 : decode cX2_leastFrontPlace 51 = .ok (.iload 5, 2) := by decide +kernel
theorem dX2_leastFrontPlace_53 : decode cX2_leastFrontPlace 53 = .ok (.invokevirtual 28, 3) := by decide +kernel
theorem dX2_leastFrontPlace_56 : decode cX2_leastFrontPlace 56 = .ok (.ior, 1) := by decide +kernel
theorem dX2_leastFrontPlace_57 : decode cX2_leastFrontPlace 57 = .ok (.istore_n 2, 1) := by decide +kernel
theorem dX2_leastFrontPlace_58 : decode cX2_leastFrontPlace 58 = .ok (.iinc 4 1, 3) := by decide +kernel
theorem dX2_leastFrontPlace_61 : decode cX2_leastFrontPlace 61 = .ok (.goto (-54), 3) := by decide +kernel
theorem dX2_leastFrontPlace_64 : decode cX2_leastFrontPlace 64 = .ok (.iload_n 3, 1) := by decide +kernel
theorem dX2_leastFrontPlace_65 : decode cX2_leastFrontPlace 65 = .ok (.ireturn, 1) := by decide +kernel
theorem dX2_areOne_0 : decode cX2_areOne 0 = .ok (.aload_n 0, 1) := by decide +kernel
theorem dX2_areOne_1 : decode cX2_areOne 1 = .ok (.aload_n 1, 1) := by decide +kernel
theorem dX2_areOne_2 : decode cX2_areOne 2 = .ok (.aload_n 2, 1) := by decide +kernel
theorem dX2_areOne_3 : decode cX2_areOne 3 = .ok (.invokevirtual 64, 3) := by decide +kernel
theorem dX2_areOne_6 : decode cX2_areOne 6 = .ok (.iconst (-1), 1) := by decide +kernel
theorem dX2_areOne_7 : decode cX2_areOne 7 = .ok (.if_icmp .ne 7, 3) := by decide +kernel
theorem dX2_areOne_10 : decode cX2_areOne 10 = .ok (.iconst 1, 1) := by decide +kernel
theorem dX2_areOne_11 : decode cX2_areOne 11 = .ok (.goto 4, 3) := by decide +kernel
theorem dX2_areOne_14 : decode cX2_areOne 14 = .ok (.iconst 0, 1) := by decide +kernel
theorem dX2_areOne_15 : decode cX2_areOne 15 = .ok (.ireturn, 1) := by decide +kernel
theorem dX2_firstUnlikeLook_0 : decode cX2_firstUnlikeLook 0 = .ok (.iconst 0, 1) := by decide +kernel
theorem dX2_firstUnlikeLook_1 : decode cX2_firstUnlikeLook 1 = .ok (.istore_n 3, 1) := by decide +kernel
theorem dX2_firstUnlikeLook_2 : decode cX2_firstUnlikeLook 2 = .ok (.iload_n 3, 1) := by decide +kernel
theorem dX2_firstUnlikeLook_3 : decode cX2_firstUnlikeLook 3 = .ok (.aload_n 0, 1) := by decide +kernel
theorem dX2_firstUnlikeLook_4 : decode cX2_firstUnlikeLook 4 = .ok (.getfield 24, 3) := by decide +kernel
theorem dX2_firstUnlikeLook_7 : decode cX2_firstUnlikeLook 7 = .ok (.invokevirtual 68, 3) := by decide +kernel
theorem dX2_firstUnlikeLook_10 : decode cX2_firstUnlikeLook 10 = .ok (.if_icmp .ge 67, 3) := by decide +kernel
theorem dX2_firstUnlikeLook_13 : decode cX2_firstUnlikeLook 13 = .ok (.iload_n 3, 1) := by decide +kernel
theorem dX2_firstUnlikeLook_14 : decode cX2_firstUnlikeLook 14 = .ok (.istore 4, 2) := by decide +kernel
theorem dX2_firstUnlikeLook_16 : decode cX2_firstUnlikeLook 16 = .ok (.iload 4, 2) := by decide +kernel
theorem dX2_firstUnlikeLook_18 : decode cX2_firstUnlikeLook 18 = .ok (.aload_n 0, 1) := by decide +kernel
theorem dX2_firstUnlikeLook_19 : decode cX2_firstUnlikeLook 19 = .ok (.getfield 24, 3) := by decide +kernel
theorem dX2_firstUnlikeLook_22 : decode cX2_firstUnlikeLook 22 = .ok (.invokevirtual 68, 3) := by decide +kernel
theorem dX2_firstUnlikeLook_25 : decode cX2_firstUnlikeLook 25 = .ok (.if_icmp .ge 46, 3) := by decide +kernel
theorem dX2_firstUnlikeLook_28 : decode cX2_firstUnlikeLook 28 = .ok (.aload_n 0, 1) := by decide +kernel
theorem dX2_firstUnlikeLook_29 : decode cX2_firstUnlikeLook 29 = .ok (.getfield 24, 3) := by decide +kernel
theorem dX2_firstUnlikeLook_32 : decode cX2_firstUnlikeLook 32 = .ok (.iload_n 3, 1) := by decide +kernel
theorem dX2_firstUnlikeLook_33 : decode cX2_firstUnlikeLook 33 = .ok (.iload 4, 2) := by decide +kernel
theorem dX2_firstUnlikeLook_35 : decode cX2_firstUnlikeLook 35 = .ok (.invokevirtual 71, 3) := by decide +kernel
theorem dX2_firstUnlikeLook_38 : decode cX2_firstUnlikeLook 38 = .ok (.ifCond .ne 27, 3) := by decide +kernel
theorem dX2_firstUnlikeLook_41 : decode cX2_firstUnlikeLook 41 = .ok (.aload_n 1, 1) := by decide +kernel
theorem dX2_firstUnlikeLook_42 : decode cX2_firstUnlikeLook 42 = .ok (.aload_n 2, 1) := by decide +kernel
theorem dX2_firstUnlikeLook_43 : decode cX2_firstUnlikeLook 43 = .ok (.iconst 1, 1) := by decide +kernel
theorem dX2_firstUnlikeLook_44 : decode cX2_firstUnlikeLook 44 = .ok (.iload_n 3, 1) := by decide +kernel
theorem dX2_firstUnlikeLook_45 : decode cX2_firstUnlikeLook 45 = .ok (.ishl, 1) := by decide +kernel
theorem dX2_firstUnlikeLook_46 : decode cX2_firstUnlikeLook 46 = .ok (.iconst 1, 1) := by decide +kernel
theorem dX2_firstUnlikeLook_47 : decode cX2_firstUnlikeLook 47 = .ok (.iload 4, 2) := by decide +kernel
theorem dX2_firstUnlikeLook_49 : decode cX2_firstUnlikeLook 49 = .ok (.ishl, 1) := by decide +kernel
theorem dX2_firstUnlikeLook_50 : decode cX2_firstUnlikeLook 50 = .ok (.ior, 1) := by decide +kernel
theorem dX2_firstUnlikeLook_51 : decode cX2_firstUnlikeLook 51 = .ok (.invokestatic 75, 3) := by decide +kernel
theorem dX2_firstUnlikeLook_54 : decode cX2_firstUnlikeLook 54 = .ok (.ifCond .ne 11, 3) := by decide +kernel
theorem dX2_firstUnlikeLook_57 : decode cX2_firstUnlikeLook 57 = .ok (.bipush 8, 2) := by decide +kernel
theorem dX2_firstUnlikeLook_59 : decode cX2_firstUnlikeLook 59 = .ok (.iload_n 3, 1) := by decide +kernel
theorem dX2_firstUnlikeLook_60 : decode cX2_firstUnlikeLook 60 = .ok (.imul, 1) := by decide +kernel
theorem dX2_firstUnlikeLook_61 : decode cX2_firstUnlikeLook 61 = .ok (.iload 4, 2) := by decide +kernel
theorem dX2_firstUnlikeLook_63 : decode cX2_firstUnlikeLook 63 = .ok (.iadd, 1) := by decide +kernel
theorem dX2_firstUnlikeLook_64 : decode cX2_firstUnlikeLook 64 = .ok (.ireturn, 1) := by decide +kernel
theorem dX2_firstUnlikeLook_65 : decode cX2_firstUnlikeLook 65 = .ok (.iinc 4 1, 3) := by decide +kernel
theorem dX2_firstUnlikeLook_68 : decode cX2_firstUnlikeLook 68 = .ok (.goto (-52), 3) := by decide +kernel
theorem dX2_firstUnlikeLook_71 : decode cX2_firstUnlikeLook 71 = .ok (.iinc 3 1, 3) := by decide +kernel
theorem dX2_firstUnlikeLook_74 : decode cX2_firstUnlikeLook 74 = .ok (.goto (-72), 3) := by decide +kernel
theorem dX2_firstUnlikeLook_77 : decode cX2_firstUnlikeLook 77 = .ok (.iconst (-1), 1) := by decide +kernel
theorem dX2_firstUnlikeLook_78 : decode cX2_firstUnlikeLook 78 = .ok (.ireturn, 1) := by decide +kernel
theorem dX2_lookAlike_0 : decode cX2_lookAlike 0 = .ok (.aload_n 1, 1) := by decide +kernel
theorem dX2_lookAlike_1 : decode cX2_lookAlike 1 = .ok (.iconst 0, 1) := by decide +kernel
theorem dX2_lookAlike_2 : decode cX2_lookAlike 2 = .ok (.iload_n 2, 1) := by decide +kernel
theorem dX2_lookAlike_3 : decode cX2_lookAlike 3 = .ok (.invokestatic 79, 3) := by decide +kernel
theorem dX2_lookAlike_6 : decode cX2_lookAlike 6 = .ok (.istore_n 3, 1) := by decide +kernel
theorem dX2_lookAlike_7 : decode cX2_lookAlike 7 = .ok (.iconst 0, 1) := by decide +kernel
theorem dX2_lookAlike_8 : decode cX2_lookAlike 8 = .ok (.istore 4, 2) := by decide +kernel
theorem dX2_lookAlike_10 : decode cX2_lookAlike 10 = .ok (.iload 4, 2) := by decide +kernel
theorem dX2_lookAlike_12 : decode cX2_lookAlike 12 = .ok (.aload_n 0, 1) := by decide +kernel
theorem dX2_lookAlike_13 : decode cX2_lookAlike 13 = .ok (.invokevirtual 34, 3) := by decide +kernel
theorem dX2_lookAlike_16 : decode cX2_lookAlike 16 = .ok (.if_icmp .ge 48, 3) := by decide +kernel
theorem dX2_lookAlike_19 : decode cX2_lookAlike 19 = .ok (.iload_n 2, 1) := by decide +kernel
theorem dX2_lookAlike_20 : decode cX2_lookAlike 20 = .ok (.aload_n 0, 1) := by decide +kernel
theorem dX2_lookAlike_21 : decode cX2_lookAlike 21 = .ok (.iload 4, 2) := by decide +kernel
theorem dX2_lookAlike_23 : decode cX2_lookAlike 23 = .ok (.invokevirtual 38, 3) := by decide +kernel
theorem dX2_lookAlike_26 : decode cX2_lookAlike 26 = .ok (.ishr, 1) := by decide +kernel
theorem dX2_lookAlike_27 : decode cX2_lookAlike 27 = .ok (.iconst 1, 1) := by decide +kernel
theorem dX2_lookAlike_28 : decode cX2_lookAlike 28 = .ok (.iand, 1) := by decide +kernel
theorem dX2_lookAlike_29 : decode cX2_lookAlike 29 = .ok (.iconst 1, 1) := by decide +kernel
theorem dX2_lookAlike_30 : decode cX2_lookAlike 30 = .ok (.if_icmp .ne 28, 3) := by decide +kernel
theorem dX2_lookAlike_33 : decode cX2_lookAlike 33 = .ok (.aload_n 0, 1) := by decide +kernel
theorem dX2_lookAlike_34 : decode cX2_lookAlike 34 = .ok (.iload 4, 2) := by decide +kernel
theorem dX2_lookAlike_36 : decode cX2_lookAlike 36 = .ok (.invokevirtual 38, 3) := by decide +kernel
theorem dX2_lookAlike_39 : decode cX2_lookAlike 39 = .ok (.aload_n 1, 1) := by decide +kernel
theorem dX2_lookAlike_40 : decode cX2_lookAlike 40 = .ok (.iload_n 3, 1) := by decide +kernel
theorem dX2_lookAlike_41 : decode cX2_lookAlike 41 = .ok (.invokevirtual 38, 3) := by decide +kernel
theorem dX2_lookAlike_44 : decode cX2_lookAlike 44 = .ok (.if_icmp .eq 5, 3) := by decide +kernel
theorem dX2_lookAlike_47 : decode cX2_lookAlike 47 = .ok (.iconst 0, 1) := by decide +kernel
theorem dX2_lookAlike_48 : decode cX2_lookAlike 48 = .ok (.ireturn, 1) := by decide +kernel
theorem dX2_lookAlike_49 : decode cX2_lookAlike 49 = .ok (.aload_n 1, 1) := by decide +kernel
theorem dX2_lookAlike_50 : decode cX2_lookAlike 50 = .ok (.iload_n 3, 1) := by decide +kernel
theorem dX2_lookAlike_51 : decode cX2_lookAlike 51 = .ok (.iconst 1, 1) := by decide +kernel
theorem dX2_lookAlike_52 : decode cX2_lookAlike 52 = .ok (.iadd, 1) := by decide +kernel
theorem dX2_lookAlike_53 : decode cX2_lookAlike 53 = .ok (.iload_n 2, 1) := by decide +kernel
theorem dX2_lookAlike_54 : decode cX2_lookAlike 54 = .ok (.invokestatic 79, 3) := by decide +kernel
theorem dX2_lookAlike_57 : decode cX2_lookAlike 57 = .ok (.istore_n 3, 1) := by decide +kernel
theorem dX2_lookAlike_58 : decode cX2_lookAlike 58 = .ok (.iinc 4 1, 3) := by decide +kernel
theorem dX2_lookAlike_61 : decode cX2_lookAlike 61 = .ok (.goto (-51), 3) := by decide +kernel
theorem dX2_lookAlike_64 : decode cX2_lookAlike 64 = .ok (.iload_n 3, 1) := by decide +kernel
theorem dX2_lookAlike_65 : decode cX2_lookAlike 65 = .ok (.aload_n 1, 1) := by decide +kernel
theorem dX2_lookAlike_66 : decode cX2_lookAlike 66 = .ok (.invokevirtual 34, 3) := by decide +kernel
theorem dX2_lookAlike_69 : decode cX2_lookAlike 69 = .ok (.if_icmp .lt 7, 3) := by decide +kernel
theorem dX2_lookAlike_72 : decode cX2_lookAlike 72 = .ok (.iconst 1, 1) := by decide +kernel
theorem dX2_lookAlike_73 : decode cX2_lookAlike 73 = .ok (.goto 4, 3) := by decide +kernel
theorem dX2_lookAlike_76 : decode cX2_lookAlike 76 = .ok (.iconst 0, 1) := by decide +kernel
theorem dX2_lookAlike_77 : decode cX2_lookAlike 77 = .ok (.ireturn, 1) := by decide +kernel
theorem dX2_nextSeen_0 : decode cX2_nextSeen 0 = .ok (.iload_n 1, 1) := by decide +kernel
theorem dX2_nextSeen_1 : decode cX2_nextSeen 1 = .ok (.istore_n 3, 1) := by decide +kernel
theorem dX2_nextSeen_2 : decode cX2_nextSeen 2 = .ok (.iload_n 3, 1) := by decide +kernel
theorem dX2_nextSeen_3 : decode cX2_nextSeen 3 = .ok (.aload_n 0, 1) := by decide +kernel
theorem dX2_nextSeen_4 : decode cX2_nextSeen 4 = .ok (.invokevirtual 34, 3) := by decide +kernel
theorem dX2_nextSeen_7 : decode cX2_nextSeen 7 = .ok (.if_icmp .ge 24, 3) := by decide +kernel
theorem dX2_nextSeen_10 : decode cX2_nextSeen 10 = .ok (.iload_n 2, 1) := by decide +kernel
theorem dX2_nextSeen_11 : decode cX2_nextSeen 11 = .ok (.aload_n 0, 1) := by decide +kernel
theorem dX2_nextSeen_12 : decode cX2_nextSeen 12 = .ok (.iload_n 3, 1) := by decide +kernel
theorem dX2_nextSeen_13 : decode cX2_nextSeen 13 = .ok (.invokevirtual 38, 3) := by decide +kernel
theorem dX2_nextSeen_16 : decode cX2_nextSeen 16 = .ok (.ishr, 1) := by decide +kernel
theorem dX2_nextSeen_17 : decode cX2_nextSeen 17 = .ok (.iconst 1, 1) := by decide +kernel
theorem dX2_nextSeen_18 : decode cX2_nextSeen 18 = .ok (.iand, 1) := by decide +kernel
theorem dX2_nextSeen_19 : decode cX2_nextSeen 19 = .ok (.iconst 1, 1) := by decide +kernel
theorem dX2_nextSeen_20 : decode cX2_nextSeen 20 = .ok (.if_icmp .ne 5, 3) := by decide +kernel
theorem dX2_nextSeen_23 : decode cX2_nextSeen 23 = .ok (.iload_n 3, 1) := by decide +kernel
theorem dX2_nextSeen_24 : decode cX2_nextSeen 24 = .ok (.ireturn, 1) := by decide +kernel
theorem dX2_nextSeen_25 : decode cX2_nextSeen 25 = .ok (.iinc 3 1, 3) := by decide +kernel
theorem dX2_nextSeen_28 : decode cX2_nextSeen 28 = .ok (.goto (-26), 3) := by decide +kernel
theorem dX2_nextSeen_31 : decode cX2_nextSeen 31 = .ok (.aload_n 0, 1) := by decide +kernel
theorem dX2_nextSeen_32 : decode cX2_nextSeen 32 = .ok (.invokevirtual 34, 3) := by decide +kernel
theorem dX2_nextSeen_35 : decode cX2_nextSeen 35 = .ok (.ireturn, 1) := by decide +kernel
theorem dX2_layerBits_0 : decode cX2_layerBits 0 = .ok (.aload_n 0, 1) := by decide +kernel
theorem dX2_layerBits_1 : decode cX2_layerBits 1 = .ok (.getfield 12, 3) := by decide +kernel
theorem dX2_layerBits_4 : decode cX2_layerBits 4 = .ok (.aload_n 1, 1) := by decide +kernel
theorem dX2_layerBits_5 : decode cX2_layerBits 5 = .ok (.invokevirtual 49, 3) := by decide +kernel
theorem dX2_layerBits_8 : decode cX2_layerBits 8 = .ok (.iconst 0, 1) := by decide +kernel
theorem dX2_layerBits_9 : decode cX2_layerBits 9 = .ok (.istore_n 3, 1) := by decide +kernel
theorem dX2_layerBits_10 : decode cX2_layerBits 10 = .ok (.aload_n 0, 1) := by decide +kernel
theorem dX2_layerBits_11 : decode cX2_layerBits 11 = .ok (.getfield 12, 3) := by decide +kernel
theorem dX2_layerBits_14 : decode cX2_layerBits 14 = .ok (.invokevirtual 34, 3) := by decide +kernel
theorem dX2_layerBits_17 : decode cX2_layerBits 17 = .ok (.ifCond .le 43, 3) := by decide +kernel
theorem dX2_layerBits_20 : decode cX2_layerBits 20 = .ok (.iload_n 3, 1) := by decide +kernel
theorem dX2_layerBits_21 : decode cX2_layerBits 21 = .ok (.bipush 24, 2) := by decide +kernel
theorem dX2_layerBits_23 : decode cX2_layerBits 23 = .ok (.if_icmp .ge 37, 3) := by decide +kernel
theorem dX2_layerBits_26 : decode cX2_layerBits 26 = .ok (.aload_n 0, 1) := by decide +kernel
theorem dX2_layerBits_27 : decode cX2_layerBits 27 = .ok (.aload_n 0, 1) := by decide +kernel
theorem dX2_layerBits_28 : decode cX2_layerBits 28 = .ok (.getfield 12, 3) := by decide +kernel
theorem dX2_layerBits_31 : decode cX2_layerBits 31 = .ok (.invokevirtual 83, 3) := by decide +kernel
theorem dX2_layerBits_34 : decode cX2_layerBits 34 = .ok (.istore 4, 2) := by decide +kernel
theorem dX2_layerBits_36 : decode cX2_layerBits 36 = .ok (.iload_n 3, 1) := by decide +kernel
theorem dX2_layerBits_37 : decode cX2_layerBits 37 = .ok (.iload_n 2, 1) := by decide +kernel
theorem dX2_layerBits_38 : decode cX2_layerBits 38 = .ok (.if_icmp .ne 6, 3) := by decide +kernel
theorem dX2_layerBits_41 : decode cX2_layerBits 41 = .ok (.iload 4, 2) := by decide +kernel
theorem dX2_layerBits_43 : decode cX2_layerBits 43 = .ok (.ireturn, 1) := by decide +kernel
theorem dX2_layerBits_44 : decode cX2_layerBits 44 = .ok (.aload_n 0, 1) := by decide +kernel
theorem dX2_layerBits_45 : decode cX2_layerBits 45 = .ok (.aload_n 0, 1) := by decide +kernel
theorem dX2_layerBits_46 : decode cX2_layerBits 46 = .ok (.getfield 12, 3) := by decide +kernel
theorem dX2_layerBits_49 : decode cX2_layerBits 49 = .ok (.iload 4, 2) := by decide +kernel
theorem dX2_layerBits_51 : decode cX2_layerBits 51 = .ok (.invokevirtual 86, 3) := by decide +kernel
theorem dX2_layerBits_54 : decode cX2_layerBits 54 = .ok (.iinc 3 1, 3) := by decide +kernel
theorem dX2_layerBits_57 : decode cX2_layerBits 57 = .ok (.goto (-47), 3) := by decide +kernel
theorem dX2_layerBits_60 : decode cX2_layerBits 60 = .ok (.iload_n 2, 1) := by decide +kernel
theorem dX2_layerBits_61 : decode cX2_layerBits 61 = .ok (.iconst (-1), 1) := by decide +kernel
theorem dX2_layerBits_62 : decode cX2_layerBits 62 = .ok (.if_icmp .ne 7, 3) := by decide +kernel
theorem dX2_layerBits_65 : decode cX2_layerBits 65 = .ok (.iload_n 3, 1) := by decide +kernel
theorem dX2_layerBits_66 : decode cX2_layerBits 66 = .ok (.goto 4, 3) := by decide +kernel
theorem dX2_layerBits_69 : decode cX2_layerBits 69 = .ok (.iconst (-1), 1) := by decide +kernel
theorem dX2_layerBits_70 : decode cX2_layerBits 70 = .ok (.ireturn, 1) := by decide +kernel
theorem dX2_frontBits_0 : decode cX2_frontBits 0 = .ok (.iconst 0, 1) := by decide +kernel
theorem dX2_frontBits_1 : decode cX2_frontBits 1 = .ok (.istore_n 2, 1) := by decide +kernel
theorem dX2_frontBits_2 : decode cX2_frontBits 2 = .ok (.iconst 0, 1) := by decide +kernel
theorem dX2_frontBits_3 : decode cX2_frontBits 3 = .ok (.istore_n 3, 1) := by decide +kernel
theorem dX2_frontBits_4 : decode cX2_frontBits 4 = .ok (.iload_n 3, 1) := by decide +kernel
theorem dX2_frontBits_5 : decode cX2_frontBits 5 = .ok (.aload_n 0, 1) := by decide +kernel
theorem dX2_frontBits_6 : decode cX2_frontBits 6 = .ok (.getfield 24, 3) := by decide +kernel
theorem dX2_frontBits_9 : decode cX2_frontBits 9 = .ok (.invokevirtual 68, 3) := by decide +kernel
theorem dX2_frontBits_12 : decode cX2_frontBits 12 = .ok (.if_icmp .ge 24, 3) := by decide +kernel
theorem dX2_frontBits_15 : decode cX2_frontBits 15 = .ok (.aload_n 0, 1) := by decide +kernel
theorem dX2_frontBits_16 : decode cX2_frontBits 16 = .ok (.aload_n 1, 1) := by decide +kernel
theorem dX2_frontBits_17 : decode cX2_frontBits 17 = .ok (.iload_n 3, 1) := by decide +kernel
theorem dX2_frontBits_18 : decode cX2_frontBits 18 = .ok (.invokevirtual 90, 3) := by decide +kernel
theorem dX2_frontBits_21 : decode cX2_frontBits 21 = .ok (.ifCond .eq 9, 3) := by decide +kernel
theorem dX2_frontBits_24 : decode cX2_frontBits 24 = .ok (.iload_n 2, 1) := by decide +kernel
theorem dX2_frontBits_25 : decode cX2_frontBits 25 = .ok (.iconst 1, 1) := by decide +kernel
theorem dX2_frontBits_26 : decode cX2_frontBits 26 = .ok (.iload_n 3, 1) := by decide +kernel
theorem dX2_frontBits_27 : decode cX2_frontBits 27 = .ok (.ishl, 1) := by decide +kernel
theorem dX2_frontBits_28 : decode cX2_frontBits 28 = .ok (.ior, 1) := by decide +kernel
theorem dX2_frontBits_29 : decode cX2_frontBits 29 = .ok (.istore_n 2, 1) := by decide +kernel
theorem dX2_frontBits_30 : decode cX2_frontBits 30 = .ok (.iinc 3 1, 3) := by decide +kernel
theorem dX2_frontBits_33 : decode cX2_frontBits 33 = .ok (.goto (-29), 3) := by decide +kernel
theorem dX2_frontBits_36 : decode cX2_frontBits 36 = .ok (.iload_n 2, 1) := by decide +kernel
theorem dX2_frontBits_37 : decode cX2_frontBits 37 = .ok (.ireturn, 1) := by decide +kernel
theorem dX2_takeOffAll_0 : decode cX2_takeOffAll 0 = .ok (.iconst 0, 1) := by decide +kernel
theorem dX2_takeOffAll_1 : decode cX2_takeOffAll 1 = .ok (.istore_n 3, 1) := by decide +kernel
theorem dX2_takeOffAll_2 : decode cX2_takeOffAll 2 = .ok (.iload_n 3, 1) := by decide +kernel
theorem dX2_takeOffAll_3 : decode cX2_takeOffAll 3 = .ok (.aload_n 0, 1) := by decide +kernel
theorem dX2_takeOffAll_4 : decode cX2_takeOffAll 4 = .ok (.getfield 24, 3) := by decide +kernel
theorem dX2_takeOffAll_7 : decode cX2_takeOffAll 7 = .ok (.invokevirtual 68, 3) := by decide +kernel
theorem dX2_takeOffAll_10 : decode cX2_takeOffAll 10 = .ok (.if_icmp .ge 25, 3) := by decide +kernel
theorem dX2_takeOffAll_13 : decode cX2_takeOffAll 13 = .ok (.iload_n 2, 1) := by decide +kernel
theorem dX2_takeOffAll_14 : decode cX2_takeOffAll 14 = .ok (.iload_n 3, 1) := by decide +kernel
theorem dX2_takeOffAll_15 : decode cX2_takeOffAll 15 = .ok (.ishr, 1) := by decide +kernel
theorem dX2_takeOffAll_16 : decode cX2_takeOffAll 16 = .ok (.iconst 1, 1) := by decide +kernel
theorem dX2_takeOffAll_17 : decode cX2_takeOffAll 17 = .ok (.iand, 1) := by decide +kernel
theorem dX2_takeOffAll_18 : decode cX2_takeOffAll 18 = .ok (.iconst 1, 1) := by decide +kernel
theorem dX2_takeOffAll_19 : decode cX2_takeOffAll 19 = .ok (.if_icmp .ne 10, 3) := by decide +kernel
theorem dX2_takeOffAll_22 : decode cX2_takeOffAll 22 = .ok (.aload_n 0, 1) := by decide +kernel
theorem dX2_takeOffAll_23 : decode cX2_takeOffAll 23 = .ok (.aload_n 1, 1) := by decide +kernel
theorem dX2_takeOffAll_24 : decode cX2_takeOffAll 24 = .ok (.iload_n 3, 1) := by decide +kernel
theorem dX2_takeOffAll_25 : decode cX2_takeOffAll 25 = .ok (.invokevirtual 94, 3) := by decide +kernel
theorem dX2_takeOffAll_28 : decode cX2_takeOffAll 28 = .ok (.pop, 1) := by decide +kernel
theorem dX2_takeOffAll_29 : decode cX2_takeOffAll 29 = .ok (.iinc 3 1, 3) := by decide +kernel
theorem dX2_takeOffAll_32 : decode cX2_takeOffAll 32 = .ok (.goto (-30), 3) := by decide +kernel
theorem dX2_takeOffAll_35 : decode cX2_takeOffAll 35 = .ok (.return_, 1) := by decide +kernel
theorem dX2_mustComeAhead_0 : decode cX2_mustComeAhead 0 = .ok (.iload_n 2, 1) := by decide +kernel
theorem dX2_mustComeAhead_1 : decode cX2_mustComeAhead 1 = .ok (.iload_n 3, 1) := by decide +kernel
theorem dX2_mustComeAhead_2 : decode cX2_mustComeAhead 2 = .ok (.if_icmp .lt 5, 3) := by decide +kernel
theorem dX2_mustComeAhead_5 : decode cX2_mustComeAhead 5 = .ok (.iconst 0, 1) := by decide +kernel
theorem dX2_mustComeAhead_6 : decode cX2_mustComeAhead 6 = .ok (.ireturn, 1) := by decide +kernel
theorem dX2_mustComeAhead_7 : decode cX2_mustComeAhead 7 = .ok (.aload_n 0, 1) := by decide +kernel
theorem dX2_mustComeAhead_8 : decode cX2_mustComeAhead 8 = .ok (.getfield 24, 3) := by decide +kernel
theorem dX2_mustComeAhead_11 : decode cX2_mustComeAhead 11 = .ok (.aload_n 1, 1) := by decide +kernel
theorem dX2_mustComeAhead_12 : decode cX2_mustComeAhead 12 = .ok (.iload_n 2, 1) := by decide +kernel
theorem dX2_mustComeAhead_13 : decode cX2_mustComeAhead 13 = .ok (.invokevirtual 38, 3) := by decide +kernel
theorem dX2_mustComeAhead_16 : decode cX2_mustComeAhead 16 = .ok (.invokevirtual 28, 3) := by decide +kernel
theorem dX2_mustComeAhead_19 : decode cX2_mustComeAhead 19 = .ok (.istore 4, 2) := by decide +kernel
theorem dX2_mustComeAhead_21 : decode cX2_mustComeAhead 21 = .ok (.iload_n 2, 1) := by decide +kernel
theorem dX2_mustComeAhead_22 : decode cX2_mustComeAhead 22 = .ok (.iconst 1, 1) := by decide +kernel
theorem dX2_mustComeAhead_23 : decode cX2_mustComeAhead 23 = .ok (.iadd, 1) := by decide +kernel
theorem dX2_mustComeAhead_24 : decode cX2_mustComeAhead 24 = .ok (.istore 5, 2) := by decide +kernel
theorem dX2_mustComeAhead_26 : decode cX2_mustComeAhead 26 = .ok (.iload 5, 2) := by decide +kernel
theorem dX2_mustComeAhead_28 : decode cX2_mustComeAhead 28 = .ok (.iload_n 3, 1) := by decide +kernel
theorem dX2_mustComeAhead_29 : decode cX2_mustComeAhead 29 = .ok (.if_icmp .ge 42, 3) := by decide +kernel
theorem dX2_mustComeAhead_32 : decode cX2_mustComeAhead 32 = .ok (.iload 4, 2) := by decide +kernel
theorem dX2_mustComeAhead_34 : decode cX2_mustComeAhead 34 = .ok (.aload_n 1, 1) := by decide +kernel
theorem dX2_mustComeAhead_35 : decode cX2_mustComeAhead 35 = .ok (.iload 5, 2) := by decide +kernel
theorem dX2_mustComeAhead_37 : decode cX2_mustComeAhead 37 = .ok (.invokevirtual 38, 3) := by decide +kernel
theorem dX2_mustComeAhead_40 : decode cX2_mustComeAhead 40 = .ok (.ishr, 1) := by decide +kernel
theorem dX2_mustComeAhead_41 : decode cX2_mustComeAhead 41 = .ok (.iconst 1, 1) := by decide +kernel
theorem dX2_mustComeAhead_42 : decode cX2_mustComeAhead 42 = .ok (.iand, 1) := by decide +kernel
theorem dX2_mustComeAhead_43 : decode cX2_mustComeAhead 43 = .ok (.iconst 1, 1) := by decide +kernel
theorem dX2_mustComeAhead_44 : decode cX2_mustComeAhead 44 = .ok (.if_icmp .ne 21, 3) := by decide +kernel
theorem dX2_mustComeAhead_47 : decode cX2_mustComeAhead 47 = .ok (.iload 4, 2) := by decide +kernel
theorem dX2_mustComeAhead_49 : decode cX2_mustComeAhead 49 = .ok (.aload_n 0, 1) := by decide +kernel
theorem dX2_mustComeAhead_50 : decode cX2_mustComeAhead 50 = .ok (.getfield 24, 3) := by decide +kernel
theorem dX2_mustComeAhead_53 : decode cX2_mustComeAhead 53 = .ok (.aload_n 1, 1) := by decide +kernel
theorem dX2_mustComeAhead_54 : decode cX2_mustComeAhead 54 = .ok (.iload 5, 2) := by decide +kernel
theorem dX2_mustComeAhead_56 : decode cX2_mustComeAhead 56 = .ok (.invokevirtual 38, 3) := by decide +kernel
theorem dX2_mustComeAhead_59 : decode cX2_mustComeAhead 59 = .ok (.invokevirtual 28, 3) := by decide +kernel
theorem dX2_mustComeAhead_62 : decode cX2_mustComeAhead 62 = .ok (.ior, 1) := by decide +kernel
theorem dX2_mustComeAhead_63 : decode cX2_mustComeAhead 63 = .ok (.istore 4, 2) := by decide +kernel
theorem dX2_mustComeAhead_65 : decode cX2_mustComeAhead 65 = .ok (.iinc 5 1, 3) := by decide +kernel
theorem dX2_mustComeAhead_68 : decode cX2_mustComeAhead 68 = .ok (.goto (-42), 3) := by decide +kernel
theorem dX2_mustComeAhead_71 : decode cX2_mustComeAhead 71 = .ok (.iload 4, 2) := by decide +kernel
theorem dX2_mustComeAhead_73 : decode cX2_mustComeAhead 73 = .ok (.aload_n 1, 1) := by decide +kernel
theorem dX2_mustComeAhead_74 : decode cX2_mustComeAhead 74 = .ok (.iload_n 3, 1) := by decide +kernel
theorem dX2_mustComeAhead_75 : decode cX2_mustComeAhead 75 = .ok (.invokevirtual 38, 3) := by decide +kernel
theorem dX2_mustComeAhead_78 : decode cX2_mustComeAhead 78 = .ok (.ishr, 1) := by decide +kernel
theorem dX2_mustComeAhead_79 : decode cX2_mustComeAhead 79 = .ok (.iconst 1, 1) := by decide +kernel
theorem dX2_mustComeAhead_80 : decode cX2_mustComeAhead 80 = .ok (.iand, 1) := by decide +kernel
theorem dX2_mustComeAhead_81 : decode cX2_mustComeAhead 81 = .ok (.iconst 1, 1) := by decide +kernel
theorem dX2_mustComeAhead_82 : decode cX2_mustComeAhead 82 = .ok (.if_icmp .ne 7, 3) := by decide +kernel
theorem dX2_mustComeAhead_85 : decode cX2_mustComeAhead 85 = .ok (.iconst 1, 1) := by decide +kernel
theorem dX2_mustComeAhead_86 : decode cX2_mustComeAhead 86 = .ok (.goto 4, 3) := by decide +kernel
theorem dX2_mustComeAhead_89 : decode cX2_mustComeAhead 89 = .ok (.iconst 0, 1) := by decide +kernel
theorem dX2_mustComeAhead_90 : decode cX2_mustComeAhead 90 = .ok (.ireturn, 1) := by decide +kernel
theorem dX2_partBits_0 : decode cX2_partBits 0 = .ok (.aload_n 1, 1) := by decide +kernel
theorem dX2_partBits_1 : decode cX2_partBits 1 = .ok (.invokevirtual 97, 3) := by decide +kernel
theorem dX2_partBits_4 : decode cX2_partBits 4 = .ok (.istore_n 3, 1) := by decide +kernel
theorem dX2_partBits_5 : decode cX2_partBits 5 = .ok (.iconst 0, 1) := by decide +kernel
theorem dX2_partBits_6 : decode cX2_partBits 6 = .ok (.istore 4, 2) := by decide +kernel
theorem dX2_partBits_8 : decode cX2_partBits 8 = .ok (.iconst 0, 1) := by decide +kernel
theorem dX2_partBits_9 : decode cX2_partBits 9 = .ok (.istore 5, 2) := by decide +kernel
theorem dX2_partBits_11 : decode cX2_partBits 11 = .ok (.iconst 0, 1) := by decide +kernel
theorem dX2_partBits_12 : decode cX2_partBits 12 = .ok (.istore 6, 2) := by decide +kernel
theorem dX2_partBits_14 : decode cX2_partBits 14 = .ok (.iload 6, 2) := by decide +kernel
theorem dX2_partBits_16 : decode cX2_partBits 16 = .ok (.aload_n 0, 1) := by decide +kernel
theorem dX2_partBits_17 : decode cX2_partBits 17 = .ok (.getfield 24, 3) := by decide +kernel
theorem dX2_partBits_20 : decode cX2_partBits 20 = .ok (.invokevirtual 68, 3) := by decide +kernel
theorem dX2_partBits_23 : decode cX2_partBits 23 = .ok (.if_icmp .ge 57, 3) := by decide +kernel
theorem dX2_partBits_26 : decode cX2_partBits 26 = .ok (.iload_n 3, 1) := by decide +kernel
theorem dX2_partBits_27 : decode cX2_partBits 27 = .ok (.iload 6, 2) := by decide +kernel
theorem dX2_partBits_29 : decode cX2_partBits 29 = .ok (.ishr, 1) := by decide +kernel
theorem dX2_partBits_30 : decode cX2_partBits 30 = .ok (.iconst 1, 1) := by decide +kernel
theorem dX2_partBits_31 : decode cX2_partBits 31 = .ok (.iand, 1) := by decide +kernel
theorem dX2_partBits_32 : decode cX2_partBits 32 = .ok (.iconst 1, 1) := by decide +kernel
theorem dX2_partBits_33 : decode cX2_partBits 33 = .ok (.if_icmp .ne 41, 3) := by decide +kernel
theorem dX2_partBits_36 : decode cX2_partBits 36 = .ok (.iload 4, 2) := by decide +kernel
theorem dX2_partBits_38 : decode cX2_partBits 38 = .ok (.iload 6, 2) := by decide +kernel
theorem dX2_partBits_40 : decode cX2_partBits 40 = .ok (.ishr, 1) := by decide +kernel
theorem dX2_partBits_41 : decode cX2_partBits 41 = .ok (.iconst 1, 1) := by decide +kernel
theorem dX2_partBits_42 : decode cX2_partBits 42 = .ok (.iand, 1) := by decide +kernel
theorem dX2_partBits_43 : decode cX2_partBits 43 = .ok (.ifCond .ne 31, 3) := by decide +kernel
theorem dX2_partBits_46 : decode cX2_partBits 46 = .ok (.aload_n 0, 1) := by decide +kernel
theorem dX2_partBits_47 : decode cX2_partBits 47 = .ok (.iload 6, 2) := by decide +kernel
theorem dX2_partBits_49 : decode cX2_partBits 49 = .ok (.iload_n 3, 1) := by decide +kernel
theorem dX2_partBits_50 : decode cX2_partBits 50 = .ok (.invokevirtual 100, 3) := by decide +kernel
theorem dX2_partBits_53 : decode cX2_partBits 53 = .ok (.istore 7, 2) := by decide +kernel
theorem dX2_partBits_55 : decode cX2_partBits 55 = .ok (.iload 5, 2) := by decide +kernel
theorem dX2_partBits_57 : decode cX2_partBits 57 = .ok (.iload_n 2, 1) := by decide +kernel
theorem dX2_partBits_58 : decode cX2_partBits 58 = .ok (.if_icmp .ne 6, 3) := by decide +kernel
theorem dX2_partBits_61 : decode cX2_partBits 61 = .ok (.iload 7, 2) := by decide +kernel
theorem dX2_partBits_63 : decode cX2_partBits 63 = .ok (.ireturn, 1) := by decide +kernel
theorem dX2_partBits_64 : decode cX2_partBits 64 = .ok (.iload 4, 2) := by decide +kernel
theorem dX2_partBits_66 : decode cX2_partBits 66 = .ok (.iload 7, 2) := by decide +kernel
theorem dX2_partBits_68 : decode cX2_partBits 68 = .ok (.ior, 1) := by decide +kernel
theorem dX2_partBits_69 : decode cX2_partBits 69 = .ok (.istore 4, 2) := by decide +kernel
theorem dX2_partBits_71 : decode cX2_partBits 71 = .ok (.iinc 5 1, 3) := by decide +kernel
theorem dX2_partBits_74 : decode cX2_partBits 74 = .ok (.iinc 6 1, 3) := by decide +kernel
theorem dX2_partBits_77 : decode cX2_partBits 77 = .ok (.goto (-63), 3) := by decide +kernel
theorem dX2_partBits_80 : decode cX2_partBits 80 = .ok (.iload_n 2, 1) := by decide +kernel
theorem dX2_partBits_81 : decode cX2_partBits 81 = .ok (.iconst (-1), 1) := by decide +kernel
theorem dX2_partBits_82 : decode cX2_partBits 82 = .ok (.if_icmp .ne 8, 3) := by decide +kernel
theorem dX2_partBits_85 : decode cX2_partBits 85 = .ok (.iload 5, 2) := by decide +kernel
theorem dX2_partBits_87 : decode cX2_partBits 87 = .ok (.goto 4, 3) := by decide +kernel
theorem dX2_partBits_90 : decode cX2_partBits 90 = .ok (.iconst (-1), 1) := by decide +kernel
theorem dX2_partBits_91 : decode cX2_partBits 91 = .ok (.ireturn, 1) := by decide +kernel
theorem dX2_hangTogether_0 : decode cX2_hangTogether 0 = .ok (.iconst 1, 1) := by decide +kernel
theorem dX2_hangTogether_1 : decode cX2_hangTogether 1 = .ok (.iload_n 1, 1) := by decide +kernel
theorem dX2_hangTogether_2 : decode cX2_hangTogether 2 = .ok (.ishl, 1) := by decide +kernel
theorem dX2_hangTogether_3 : decode cX2_hangTogether 3 = .ok (.istore_n 3, 1) := by decide +kernel
theorem dX2_hangTogether_4 : decode cX2_hangTogether 4 = .ok (.iconst 0, 1) := by decide +kernel
theorem dX2_hangTogether_5 : decode cX2_hangTogether 5 = .ok (.istore 4, 2) := by decide +kernel
theorem dX2_hangTogether_7 : decode cX2_hangTogether 7 = .ok (.iload 4, 2) := by decide +kernel
theorem dX2_hangTogether_9 : decode cX2_hangTogether 9 = .ok (.aload_n 0, 1) := by decide +kernel
theorem dX2_hangTogether_10 : decode cX2_hangTogether 10 = .ok (.getfield 24, 3) := by decide +kernel
theorem dX2_hangTogether_13 : decode cX2_hangTogether 13 = .ok (.invokevirtual 68, 3) := by decide +kernel
theorem dX2_hangTogether_16 : decode cX2_hangTogether 16 = .ok (.if_icmp .ge 61, 3) := by decide +kernel
theorem dX2_hangTogether_19 : decode cX2_hangTogether 19 = .ok (.iconst 0, 1) := by decide +kernel
theorem dX2_hangTogether_20 : decode cX2_hangTogether 20 = .ok (.istore 5, 2) := by decide +kernel
theorem dX2_hangTogether_22 : decode cX2_hangTogether 22 = .ok (.iload 5, 2) := by decide +kernel
theorem dX2_hangTogether_24 : decode cX2_hangTogether 24 = .ok (.aload_n 0, 1) := by decide +kernel
theorem dX2_hangTogether_25 : decode cX2_hangTogether 25 = .ok (.getfield 24, 3) := by decide +kernel
theorem dX2_hangTogether_28 : decode cX2_hangTogether 28 = .ok (.invokevirtual 68, 3) := by decide +kernel
theorem dX2_hangTogether_31 : decode cX2_hangTogether 31 = .ok (.if_icmp .ge 40, 3) := by decide +kernel
theorem dX2_hangTogether_34 : decode cX2_hangTogether 34 = .ok (.iload_n 2, 1) := by decide +kernel
theorem dX2_hangTogether_35 : decode cX2_hangTogether 35 = .ok (.iload 5, 2) := by decide +kernel
theorem dX2_hangTogether_37 : decode cX2_hangTogether 37 = .ok (.ishr, 1) := by decide +kernel
theorem dX2_hangTogether_38 : decode cX2_hangTogether 38 = .ok (.iconst 1, 1) := by decide +kernel
theorem dX2_hangTogether_39 : decode cX2_hangTogether 39 = .ok (.iand, 1) := by decide +kernel
theorem dX2_hangTogether_40 : decode cX2_hangTogether 40 = .ok (.iconst 1, 1) := by decide +kernel
theorem dX2_hangTogether_41 : decode cX2_hangTogether 41 = .ok (.if_icmp .ne 24, 3) := by decide +kernel
theorem dX2_hangTogether_44 : decode cX2_hangTogether 44 = .ok (.aload_n 0, 1) := by decide +kernel
theorem dX2_hangTogether_45 : decode cX2_hangTogether 45 = .ok (.getfield 24, 3) := by decide +kernel
theorem dX2_hangTogether_48 : decode cX2_hangTogether 48 = .ok (.iload 5, 2) := by decide +kernel
theorem dX2_hangTogether_50 : decode cX2_hangTogether 50 = .ok (.invokevirtual 28, 3) := by decide +kernel
theorem dX2_hangTogether_53 : decode cX2_hangTogether 53 = .ok (.iload_n 3, 1) := by decide +kernel
theorem dX2_hangTogether_54 : decode cX2_hangTogether 54 = .ok (.iand, 1) := by decide +kernel
theorem dX2_hangTogether_55 : decode cX2_hangTogether 55 = .ok (.ifCond .eq 10, 3) := by decide +kernel
theorem dX2_hangTogether_58 : decode cX2_hangTogether 58 = .ok (.iload_n 3, 1) := by decide +kernel
theorem dX2_hangTogether_59 : decode cX2_hangTogether 59 = .ok (.iconst 1, 1) := by decide +kernel
theorem dX2_hangTogether_60 : decode cX2_hangTogether 60 = .ok (.iload 5, 2) := by decide +kernel
theorem dX2_hangTogether_62 : decode cX2_hangTogether 62 = .ok (.ishl, 1) := by decide +kernel
theorem dX2_hangTogether_63 : decode cX2_hangTogether 63 = .ok (.ior, 1) := by decide +kernel
theorem dX2_hangTogether_64 : decode cX2_hangTogether 64 = .ok (.istore_n 3, 1) := by decide +kernel
theorem dX2_hangTogether_65 : decode cX2_hangTogether 65 = .ok (.iinc 5 1, 3) := by decide +kernel
theorem dX2_hangTogether_68 : decode cX2_hangTogether 68 = .ok (.goto (-46), 3) := by decide +kernel
theorem dX2_hangTogether_71 : decode cX2_hangTogether 71 = .ok (.iinc 4 1, 3) := by decide +kernel
theorem dX2_hangTogether_74 : decode cX2_hangTogether 74 = .ok (.goto (-67), 3) := by decide +kernel
theorem dX2_hangTogether_77 : decode cX2_hangTogether 77 = .ok (.iload_n 3, 1) := by decide +kernel
theorem dX2_hangTogether_78 : decode cX2_hangTogether 78 = .ok (.ireturn, 1) := by decide +kernel
theorem dX2_greatestRoot_0 : decode cX2_greatestRoot 0 = .ok (.aload_n 1, 1) := by decide +kernel
theorem dX2_greatestRoot_1 : decode cX2_greatestRoot 1 = .ok (.invokevirtual 34, 3) := by decide +kernel
theorem dX2_greatestRoot_4 : decode cX2_greatestRoot 4 = .ok (.istore_n 2, 1) := by decide +kernel
theorem dX2_greatestRoot_5 : decode cX2_greatestRoot 5 = .ok (.iload_n 2, 1) := by decide +kernel
theorem dX2_greatestRoot_6 : decode cX2_greatestRoot 6 = .ok (.ifCond .le 20, 3) := by decide +kernel
theorem dX2_greatestRoot_9 : decode cX2_greatestRoot 9 = .ok (.aload_n 0, 1) := by decide +kernel
theorem dX2_greatestRoot_10 : decode cX2_greatestRoot 10 = .ok (.aload_n 1, 1) := by decide +kernel
theorem dX2_greatestRoot_11 : decode cX2_greatestRoot 11 = .ok (.iload_n 2, 1) := by decide +kernel
theorem dX2_greatestRoot_12 : decode cX2_greatestRoot 12 = .ok (.invokevirtual 104, 3) := by decide +kernel
theorem dX2_greatestRoot_15 : decode cX2_greatestRoot 15 = .ok (.ifCond .eq 5, 3) := by decide +kernel
theorem dX2_greatestRoot_18 : decode cX2_greatestRoot 18 = .ok (.iload_n 2, 1) := by decide +kernel
theorem dX2_greatestRoot_19 : decode cX2_greatestRoot 19 = .ok (.ireturn, 1) := by decide +kernel
theorem dX2_greatestRoot_20 : decode cX2_greatestRoot 20 = .ok (.iinc 2 (-1), 3) := by decide +kernel
theorem dX2_greatestRoot_23 : decode cX2_greatestRoot 23 = .ok (.goto (-18), 3) := by decide +kernel
theorem dX2_greatestRoot_26 : decode cX2_greatestRoot 26 = .ok (.iconst 0, 1) := by decide +kernel
theorem dX2_greatestRoot_27 : decode cX2_greatestRoot 27 = .ok (.ireturn, 1) := by decide +kernel
theorem dX2_isPower_0 : decode cX2_isPower 0 = .ok (.iload_n 2, 1) := by decide +kernel
theorem dX2_isPower_1 : decode cX2_isPower 1 = .ok (.iconst 1, 1) := by decide +kernel
theorem dX2_isPower_2 : decode cX2_isPower 2 = .ok (.if_icmp .ge 5, 3) := by decide +kernel
theorem dX2_isPower_5 : decode cX2_isPower 5 = .ok (.iconst 0, 1) := by decide +kernel
theorem dX2_isPower_6 : decode cX2_isPower 6 = .ok (.ireturn, 1) := by decide +kernel
theorem dX2_isPower_7 : decode cX2_isPower 7 = .ok (.aload_n 0, 1) := by decide +kernel
theorem dX2_isPower_8 : decode cX2_isPower 8 = .ok (.getfield 18, 3) := by decide +kernel
theorem dX2_isPower_11 : decode cX2_isPower 11 = .ok (.invokevirtual 53, 3) := by decide +kernel
theorem dX2_isPower_14 : decode cX2_isPower 14 = .ok (.iconst 0, 1) := by decide +kernel
theorem dX2_isPower_15 : decode cX2_isPower 15 = .ok (.istore_n 3, 1) := by decide +kernel
theorem dX2_isPower_16 : decode cX2_isPower 16 = .ok (.iload_n 3, 1) := by decide +kernel
theorem dX2_isPower_17 : decode cX2_isPower 17 = .ok (.aload_n 0, 1) := by decide +kernel
theorem dX2_isPower_18 : decode cX2_isPower 18 = .ok (.getfield 24, 3) := by decide +kernel
theorem dX2_isPower_21 : decode cX2_isPower 21 = .ok (.invokevirtual 68, 3) := by decide +kernel
theorem dX2_isPower_24 : decode cX2_isPower 24 = .ok (.if_icmp .ge 21, 3) := by decide +kernel
theorem dX2_isPower_27 : decode cX2_isPower 27 = .ok (.aload_n 1, 1) := by decide +kernel
theorem dX2_isPower_28 : decode cX2_isPower 28 = .ok (.iload_n 3, 1) := by decide +kernel
theorem dX2_isPower_29 : decode cX2_isPower 29 = .ok (.invokevirtual 107, 3) := by decide +kernel
theorem dX2_isPower_32 : decode cX2_isPower 32 = .ok (.iload_n 2, 1) := by decide +kernel
theorem dX2_isPower_33 : decode cX2_isPower 33 = .ok (.irem, 1) := by decide +kernel
theorem dX2_isPower_34 : decode cX2_isPower 34 = .ok (.ifCond .eq 5, 3) := by decide +kernel
theorem dX2_isPower_37 : decode cX2_isPower 37 = .ok (.iconst 0, 1) := by decide +kernel
theorem dX2_isPower_38 : decode cX2_isPower 38 = .ok (.ireturn, 1) := by decide +kernel
theorem dX2_isPower_39 : decode cX2_isPower 39 = .ok (.iinc 3 1, 3) := by decide +kernel
theorem dX2_isPower_42 : decode cX2_isPower 42 = .ok (.goto (-26), 3) := by decide +kernel
theorem dX2_isPower_45 : decode cX2_isPower 45 = .ok (.iconst 0, 1) := by decide +kernel
theorem dX2_isPower_46 : decode cX2_isPower 46 = .ok (.istore_n 3, 1) := by decide +kernel
theorem dX2_isPower_47 : decode cX2_isPower 47 = .ok (.iload_n 3, 1) := by decide +kernel
theorem dX2_isPower_48 : decode cX2_isPower 48 = .ok (.aload_n 1, 1) := by decide +kernel
theorem dX2_isPower_49 : decode cX2_isPower 49 = .ok (.invokevirtual 34, 3) := by decide +kernel
theorem dX2_isPower_52 : decode cX2_isPower 52 = .ok (.if_icmp .ge 46, 3) := by decide +kernel
theorem dX2_isPower_55 : decode cX2_isPower 55 = .ok (.aload_n 1, 1) := by decide +kernel
theorem dX2_isPower_56 : decode cX2_isPower 56 = .ok (.iload_n 3, 1) := by decide +kernel
theorem dX2_isPower_57 : decode cX2_isPower 57 = .ok (.invokevirtual 38, 3) := by decide +kernel
theorem dX2_isPower_60 : decode cX2_isPower 60 = .ok (.istore 4, 2) := by decide +kernel
theorem dX2_isPower_62 : decode cX2_isPower 62 = .ok (.aload_n 0, 1) := by decide +kernel
theorem dX2_isPower_63 : decode cX2_isPower 63 = .ok (.getfield 18, 3) := by decide +kernel
theorem dX2_isPower_66 : decode cX2_isPower 66 = .ok (.iload 4, 2) := by decide +kernel
theorem dX2_isPower_68 : decode cX2_isPower 68 = .ok (.invokevirtual 107, 3) := by decide +kernel
theorem dX2_isPower_71 : decode cX2_isPower 71 = .ok (.aload_n 1, 1) := by decide +kernel
theorem dX2_isPower_72 : decode cX2_isPower 72 = .ok (.iload 4, 2) := by decide +kernel
theorem dX2_isPower_74 : decode cX2_isPower 74 = .ok (.invokevirtual 107, 3) := by decide +kernel
theorem dX2_isPower_77 : decode cX2_isPower 77 = .ok (.iload_n 2, 1) := by decide +kernel
theorem dX2_isPower_78 : decode cX2_isPower 78 = .ok (.idiv, 1) := by decide +kernel
theorem dX2_isPower_79 : decode cX2_isPower 79 = .ok (.if_icmp .ge 13, 3) := by decide +kernel
theorem dX2_isPower_82 : decode cX2_isPower 82 = .ok (.aload_n 0, 1) := by decide +kernel
theorem dX2_isPower_83 : decode cX2_isPower 83 = .ok (.getfield 18, 3) := by decide +kernel
theorem dX2_isPower_86 : decode cX2_isPower 86 = .ok (.iload 4, 2) := by decide +kernel
theorem dX2_isPower_88 : decode cX2_isPower 88 = .ok (.invokevirtual 60, 3) := by decide +kernel
theorem dX2_isPower_91 : decode cX2_isPower 91 = .ok (.pop, 1) := by decide +kernel
theorem dX2_isPower_92 : decode cX2_isPower 92 = .ok (.iinc 3 1, 3) := by decide +kernel
theorem dX2_isPower_95 : decode cX2_isPower 95 = .ok (.goto (-48), 3) := by decide +kernel
theorem dX2_isPower_98 : decode cX2_isPower 98 = .ok (.aload_n 0, 1) := by decide +kernel
theorem dX2_isPower_99 : decode cX2_isPower 99 = .ok (.getfield 21, 3) := by decide +kernel
theorem dX2_isPower_102 : decode cX2_isPower 102 = .ok (.invokevirtual 53, 3) := by decide +kernel
theorem dX2_isPower_105 : decode cX2_isPower 105 = .ok (.iconst 0, 1) := by decide +kernel
theorem dX2_isPower_106 : decode cX2_isPower 106 = .ok (.istore_n 3, 1) := by decide +kernel
theorem dX2_isPower_107 : decode cX2_isPower 107 = .ok (.iload_n 3, 1) := by decide +kernel
theorem dX2_isPower_108 : decode cX2_isPower 108 = .ok (.iload_n 2, 1) := by decide +kernel
theorem dX2_isPower_109 : decode cX2_isPower 109 = .ok (.if_icmp .ge 21, 3) := by decide +kernel
theorem dX2_isPower_112 : decode cX2_isPower 112 = .ok (.aload_n 0, 1) := by decide +kernel
theorem dX2_isPower_113 : decode cX2_isPower 113 = .ok (.getfield 21, 3) := by decide +kernel
theorem dX2_isPower_116 : decode cX2_isPower 116 = .ok (.aload_n 0, 1) := by decide +kernel
theorem dX2_isPower_117 : decode cX2_isPower 117 = .ok (.getfield 18, 3) := by decide +kernel
theorem dX2_isPower_120 : decode cX2_isPower 120 = .ok (.invokevirtual 110, 3) := by decide +kernel
theorem dX2_isPower_123 : decode cX2_isPower 123 = .ok (.pop, 1) := by decide +kernel
theorem dX2_isPower_124 : decode cX2_isPower 124 = .ok (.iinc 3 1, 3) := by decide +kernel
theorem dX2_isPower_127 : decode cX2_isPower 127 = .ok (.goto (-20), 3) := by decide +kernel
theorem dX2_isPower_130 : decode cX2_isPower 130 = .ok (.aload_n 0, 1) := by decide +kernel
theorem dX2_isPower_131 : decode cX2_isPower 131 = .ok (.aload_n 1, 1) := by decide +kernel
theorem dX2_isPower_132 : decode cX2_isPower 132 = .ok (.aload_n 0, 1) := by decide +kernel
theorem dX2_isPower_133 : decode cX2_isPower 133 = .ok (.getfield 21, 3) := by decide +kernel
theorem dX2_isPower_136 : decode cX2_isPower 136 = .ok (.invokevirtual 64, 3) := by decide +kernel
theorem dX2_isPower_139 : decode cX2_isPower 139 = .ok (.iconst (-1), 1) := by decide +kernel
theorem dX2_isPower_140 : decode cX2_isPower 140 = .ok (.if_icmp .ne 7, 3) := by decide +kernel
theorem dX2_isPower_143 : decode cX2_isPower 143 = .ok (.iconst 1, 1) := by decide +kernel
theorem dX2_isPower_144 : decode cX2_isPower 144 = .ok (.goto 4, 3) := by decide +kernel
theorem dX2_isPower_147 : decode cX2_isPower 147 = .ok (.iconst 0, 1) := by decide +kernel
theorem dX2_isPower_148 : decode cX2_isPower 148 = .ok (.ireturn, 1) := by decide +kernel
theorem dX3_init_0 : decode cX3_init 0 = .ok (.aload_n 0, 1) := by decide +kernel
theorem dX3_init_1 : decode cX3_init 1 = .ok (.invokespecial 3, 3) := by decide +kernel
theorem dX3_init_4 : decode cX3_init 4 = .ok (.aload_n 0, 1) := by decide +kernel
theorem dX3_init_5 : decode cX3_init 5 = .ok (.bipush 6, 2) := by decide +kernel
theorem dX3_init_7 : decode cX3_init 7 = .ok (.newarray .int, 2) := by decide +kernel
theorem dX3_init_9 : decode cX3_init 9 = .ok (.putfield 9, 3) := by decide +kernel
theorem dX3_init_12 : decode cX3_init 12 = .ok (.aload_n 0, 1) := by decide +kernel
theorem dX3_init_13 : decode cX3_init 13 = .ok (.iconst 3, 1) := by decide +kernel
theorem dX3_init_14 : decode cX3_init 14 = .ok (.putfield 15, 3) := by decide +kernel
theorem dX3_init_17 : decode cX3_init 17 = .ok (.return_, 1) := by decide +kernel
theorem dX3_size_0 : decode cX3_size 0 = .ok (.aload_n 0, 1) := by decide +kernel
theorem dX3_size_1 : decode cX3_size 1 = .ok (.getfield 15, 3) := by decide +kernel
theorem dX3_size_4 : decode cX3_size 4 = .ok (.ireturn, 1) := by decide +kernel
theorem dX3_restart_0 : decode cX3_restart 0 = .ok (.aload_n 0, 1) := by decide +kernel
theorem dX3_restart_1 : decode cX3_restart 1 = .ok (.iload_n 1, 1) := by decide +kernel
theorem dX3_restart_2 : decode cX3_restart 2 = .ok (.putfield 15, 3) := by decide +kernel
theorem dX3_restart_5 : decode cX3_restart 5 = .ok (.aload_n 0, 1) := by decide +kernel
theorem dX3_restart_6 : decode cX3_restart 6 = .ok (.getfield 9, 3) := by decide +kernel
theorem dX3_restart_9 : decode cX3_restart 9 = .ok (.iconst 0, 1) := by decide +kernel
theorem dX3_restart_10 : decode cX3_restart 10 = .ok (.invokestatic 19, 3) := by decide +kernel
theorem dX3_restart_13 : decode cX3_restart 13 = .ok (.return_, 1) := by decide +kernel
theorem dX3_has_0 : decode cX3_has 0 = .ok (.iload_n 1, 1) := by decide +kernel
theorem dX3_has_1 : decode cX3_has 1 = .ok (.ifCond .lt 15, 3) := by decide +kernel
theorem dX3_has_4 : decode cX3_has 4 = .ok (.iload_n 1, 1) := by decide +kernel
theorem dX3_has_5 : decode cX3_has 5 = .ok (.aload_n 0, 1) := by decide +kernel
theorem dX3_has_6 : decode cX3_has 6 = .ok (.getfield 15, 3) := by decide +kernel
theorem dX3_has_9 : decode cX3_has 9 = .ok (.if_icmp .ge 7, 3) := by decide +kernel
theorem dX3_has_12 : decode cX3_has 12 = .ok (.iconst 1, 1) := by decide +kernel
theorem dX3_has_13 : decode cX3_has 13 = .ok (.goto 4, 3) := by decide +kernel
theorem dX3_has_16 : decode cX3_has 16 = .ok (.iconst 0, 1) := by decide +kernel
theorem dX3_has_17 : decode cX3_has 17 = .ok (.ireturn, 1) := by decide +kernel
theorem dX3_freeWith_0 : decode cX3_freeWith 0 = .ok (.iload_n 1, 1) := by decide +kernel
theorem dX3_freeWith_1 : decode cX3_freeWith 1 = .ok (.ifCond .lt 21, 3) := by decide +kernel
theorem dX3_freeWith_4 : decode cX3_freeWith 4 = .ok (.iload_n 1, 1) := by decide +kernel
theorem dX3_freeWith_5 : decode cX3_freeWith 5 = .ok (.aload_n 0, 1) := by decide +kernel
theorem dX3_freeWith_6 : decode cX3_freeWith 6 = .ok (.getfield 9, 3) := by decide +kernel
theorem dX3_freeWith_9 : decode cX3_freeWith 9 = .ok (.arraylength, 1) := by decide +kernel
theorem dX3_freeWith_10 : decode cX3_freeWith 10 = .ok (.if_icmp .ge 12, 3) := by decide +kernel
theorem dX3_freeWith_13 : decode cX3_freeWith 13 = .ok (.aload_n 0, 1) := by decide +kernel
theorem dX3_freeWith_14 : decode cX3_freeWith 14 = .ok (.getfield 9, 3) := by decide +kernel
theorem dX3_freeWith_17 : decode cX3_freeWith 17 = .ok (.iload_n 1, 1) := by decide +kernel
theorem dX3_freeWith_18 : decode cX3_freeWith 18 = .ok (.iaload, 1) := by decide +kernel
theorem dX3_freeWith_19 : decode cX3_freeWith 19 = .ok (.goto 4, 3) := by decide +kernel
theorem dX3_freeWith_22 : decode cX3_freeWith 22 = .ok (.iconst 0, 1) := by decide +kernel
theorem dX3_freeWith_23 : decode cX3_freeWith 23 = .ok (.ireturn, 1) := by decide +kernel
theorem dX3_boundWith_0 : decode cX3_boundWith 0 = .ok (.iconst 1, 1) := by decide +kernel
theorem dX3_boundWith_1 : decode cX3_boundWith 1 = .ok (.aload_n 0, 1) := by decide +kernel
theorem dX3_boundWith_2 : decode cX3_boundWith 2 = .ok (.getfield 15, 3) := by decide +kernel
theorem dX3_boundWith_5 : decode cX3_boundWith 5 = .ok (.ishl, 1) := by decide +kernel
theorem dX3_boundWith_6 : decode cX3_boundWith 6 = .ok (.iconst 1, 1) := by decide +kernel
theorem dX3_boundWith_7 : decode cX3_boundWith 7 = .ok (.isub, 1) := by decide +kernel
theorem dX3_boundWith_8 : decode cX3_boundWith 8 = .ok (.istore_n 2, 1) := by decide +kernel
theorem dX3_boundWith_9 : decode cX3_boundWith 9 = .ok (.iload_n 1, 1) := by decide +kernel
theorem dX3_boundWith_10 : decode cX3_boundWith 10 = .ok (.ifCond .lt 25, 3) := by decide +kernel
theorem dX3_boundWith_13 : decode cX3_boundWith 13 = .ok (.iload_n 1, 1) := by decide +kernel
theorem dX3_boundWith_14 : decode cX3_boundWith 14 = .ok (.aload_n 0, 1) := by decide +kernel
theorem dX3_boundWith_15 : decode cX3_boundWith 15 = .ok (.getfield 9, 3) := by decide +kernel
theorem dX3_boundWith_18 : decode cX3_boundWith 18 = .ok (.arraylength, 1) := by decide +kernel
theorem dX3_boundWith_19 : decode cX3_boundWith 19 = .ok (.if_icmp .ge 16, 3) := by decide +kernel
theorem dX3_boundWith_22 : decode cX3_boundWith 22 = .ok (.iload_n 2, 1) := by decide +kernel
theorem dX3_boundWith_23 : decode cX3_boundWith 23 = .ok (.aload_n 0, 1) := by decide +kernel
theorem dX3_boundWith_24 : decode cX3_boundWith 24 = .ok (.getfield 9, 3) := by decide +kernel
theorem dX3_boundWith_27 : decode cX3_boundWith 27 = .ok (.iload_n 1, 1) := by decide +kernel
theorem dX3_boundWith_28 : decode cX3_boundWith 28 = .ok (.iaload, 1) := by decide +kernel
theorem dX3_boundWith_29 : decode cX3_boundWith 29 = .ok (.iconst (-1), 1) := by decide +kernel
theorem dX3_boundWith_30 : decode cX3_boundWith 30 = .ok (.ixor, 1) := by decide +kernel
theorem dX3_boundWith_31 : decode cX3_boundWith 31 = .ok (.iand, 1) := by decide +kernel
theorem dX3_boundWith_32 : decode cX3_boundWith 32 = .ok (.goto 4, 3) := by decide +kernel
theorem dX3_boundWith_35 : decode cX3_boundWith 35 = .ok (.iload_n 2, 1) := by decide +kernel
theorem dX3_boundWith_36 : decode cX3_boundWith 36 = .ok (.ireturn, 1) := by decide +kernel
theorem dX3_allBits_0 : decode cX3_allBits 0 = .ok (.iconst 1, 1) := by decide +kernel
theorem dX3_allBits_1 : decode cX3_allBits 1 = .ok (.aload_n 0, 1) := by decide +kernel
theorem dX3_allBits_2 : decode cX3_allBits 2 = .ok (.getfield 15, 3) := by decide +kernel
theorem dX3_allBits_5 : decode cX3_allBits 5 = .ok (.ishl, 1) := by decide +kernel
theorem dX3_allBits_6 : decode cX3_allBits 6 = .ok (.iconst 1, 1) := by decide +kernel
theorem dX3_allBits_7 : decode cX3_allBits 7 = .ok (.isub, 1) := by decide +kernel
theorem dX3_allBits_8 : decode cX3_allBits 8 = .ok (.ireturn, 1) := by decide +kernel
theorem dX3_areFree_0 : decode cX3_areFree 0 = .ok (.aload_n 0, 1) := by decide +kernel
theorem dX3_areFree_1 : decode cX3_areFree 1 = .ok (.iload_n 2, 1) := by decide +kernel
theorem dX3_areFree_2 : decode cX3_areFree 2 = .ok (.invokevirtual 25, 3) := by decide +kernel
theorem dX3_areFree_5 : decode cX3_areFree 5 = .ok (.ifCond .eq 20, 3) := by decide +kernel
theorem dX3_areFree_8 : decode cX3_areFree 8 = .ok (.aload_n 0, 1) := by decide +kernel
theorem dX3_areFree_9 : decode cX3_areFree 9 = .ok (.iload_n 1, 1) := by decide +kernel
theorem dX3_areFree_10 : decode cX3_areFree 10 = .ok (.invokevirtual 29, 3) := by decide +kernel
theorem dX3_areFree_13 : decode cX3_areFree 13 = .ok (.iload_n 2, 1) := by decide +kernel
theorem dX3_areFree_14 : decode cX3_areFree 14 = .ok (.ishr, 1) := by decide +kernel
theorem dX3_areFree_15 : decode cX3_areFree 15 = .ok (.iconst 1, 1) := by decide +kernel
theorem dX3_areFree_16 : decode cX3_areFree 16 = .ok (.iand, 1) := by decide +kernel
theorem dX3_areFree_17 : decode cX3_areFree 17 = .ok (.iconst 1, 1) := by decide +kernel
theorem dX3_areFree_18 : decode cX3_areFree 18 = .ok (.if_icmp .ne 7, 3) := by decide +kernel
theorem dX3_areFree_21 : decode cX3_areFree 21 = .ok (.iconst 1, 1) := by decide +kernel
theorem dX3_areFree_22 : decode cX3_areFree 22 = .ok (.goto 4, 3) := by decide +kernel
theorem dX3_areFree_25 : decode cX3_areFree 25 = .ok (.iconst 0, 1) := by decide +kernel
theorem dX3_areFree_26 : decode cX3_areFree 26 = .ok (.ireturn, 1) := by decide +kernel
theorem dX3_setFree_0 : decode cX3_setFree 0 = .ok (.iload_n 1, 1) := by decide +kernel
theorem dX3_setFree_1 : decode cX3_setFree 1 = .ok (.iload_n 2, 1) := by decide +kernel
theorem dX3_setFree_2 : decode cX3_setFree 2 = .ok (.if_icmp .ne 4, 3) := by decide +kernel
theorem dX3_setFree_5 : decode cX3_setFree 5 = .ok (.return_, 1) := by decide +kernel
theorem dX3_setFree_6 : decode cX3_setFree 6 = .ok (.aload_n 0, 1) := by decide +kernel
theorem dX3_setFree_7 : decode cX3_setFree 7 = .ok (.iload_n 1, 1) := by decide +kernel
theorem dX3_setFree_8 : decode cX3_setFree 8 = .ok (.iload_n 2, 1) := by decide +kernel
theorem dX3_setFree_9 : decode cX3_setFree 9 = .ok (.iload_n 3, 1) := by decide +kernel
theorem dX3_setFree_10 : decode cX3_setFree 10 = .ok (.invokevirtual 33, 3) := by decide +kernel
theorem dX3_setFree_13 : decode cX3_setFree 13 = .ok (.aload_n 0, 1) := by decide +kernel
theorem dX3_setFree_14 : decode cX3_setFree 14 = .ok (.iload_n 2, 1) := by decide +kernel
theorem dX3_setFree_15 : decode cX3_setFree 15 = .ok (.iload_n 1, 1) := by decide +kernel
theorem dX3_setFree_16 : decode cX3_setFree 16 = .ok (.iload_n 3, 1) := by decide +kernel
theorem dX3_setFree_17 : decode cX3_setFree 17 = .ok (.invokevirtual 33, 3) := by decide +kernel
theorem dX3_setFree_20 : decode cX3_setFree 20 = .ok (.return_, 1) := by decide +kernel
theorem dX3_setBit_0 : decode cX3_setBit 0 = .ok (.aload_n 0, 1) := by decide +kernel
theorem dX3_setBit_1 : decode cX3_setBit 1 = .ok (.iload_n 2, 1) := by decide +kernel
theorem dX3_setBit_2 : decode cX3_setBit 2 = .ok (.invokevirtual 25, 3) := by decide +kernel
theorem dX3_setBit_5 : decode cX3_setBit 5 = .ok (.ifCond .eq 16, 3) := by decide +kernel
theorem dX3_setBit_8 : decode cX3_setBit 8 = .ok (.iload_n 1, 1) := by decide +kernel
theorem dX3_setBit_9 : decode cX3_setBit 9 = .ok (.ifCond .lt 12, 3) := by decide +kernel
theorem dX3_setBit_12 : decode cX3_setBit 12 = .ok (.iload_n 1, 1) := by decide +kernel
theorem dX3_setBit_13 : decode cX3_setBit 13 = .ok (.aload_n 0, 1) := by decide +kernel
theorem dX3_setBit_14 : decode cX3_setBit 14 = .ok (.getfield 9, 3) := by decide +kernel
theorem dX3_setBit_17 : decode cX3_setBit 17 = .ok (.arraylength, 1) := by decide +kernel
theorem dX3_setBit_18 : decode cX3_setBit 18 = .ok (.if_icmp .lt 4, 3) := by decide +kernel
theorem dX3_setBit_21 : decode cX3_setBit 21 = .ok (.return_, 1) := by decide +kernel
theorem dX3_setBit_22 : decode cX3_setBit 22 = .ok (.aload_n 0, 1) := by decide +kernel
theorem dX3_setBit_23 : decode cX3_setBit 23 = .ok (.getfield 9, 3) := by decide +kernel
theorem dX3_setBit_26 : decode cX3_setBit 26 = .ok (.iload_n 1, 1) := by decide +kernel
theorem dX3_setBit_27 : decode cX3_setBit 27 = .ok (.iload_n 3, 1) := by decide +kernel
theorem dX3_setBit_28 : decode cX3_setBit 28 = .ok (.ifCond .eq 16, 3) := by decide +kernel
theorem dX3_setBit_31 : decode cX3_setBit 31 = .ok (.aload_n 0, 1) := by decide +kernel
theorem dX3_setBit_32 : decode cX3_setBit 32 = .ok (.getfield 9, 3) := by decide +kernel
theorem dX3_setBit_35 : decode cX3_setBit 35 = .ok (.iload_n 1, 1) := by decide +kernel
theorem dX3_setBit_36 : decode cX3_setBit 36 = .ok (.iaload, 1) := by decide +kernel
theorem dX3_setBit_37 : decode cX3_setBit 37 = .ok (.iconst 1, 1) := by decide +kernel
theorem dX3_setBit_38 : decode cX3_setBit 38 = .ok (.iload_n 2, 1) := by decide +kernel
theorem dX3_setBit_39 : decode cX3_setBit 39 = .ok (.ishl, 1) := by decide +kernel
theorem dX3_setBit_40 : decode cX3_setBit 40 = .ok (.ior, 1) := by decide +kernel
theorem dX3_setBit_41 : decode cX3_setBit 41 = .ok (.goto 15, 3) := by decide +kernel
theorem dX3_setBit_44 : decode cX3_setBit 44 = .ok (.aload_n 0, 1) := by decide +kernel
theorem dX3_setBit_45 : decode cX3_setBit 45 = .ok (.getfield 9, 3) := by decide +kernel
theorem dX3_setBit_48 : decode cX3_setBit 48 = .ok (.iload_n 1, 1) := by decide +kernel
theorem dX3_setBit_49 : decode cX3_setBit 49 = .ok (.iaload, 1) := by decide +kernel
theorem dX3_setBit_50 : decode cX3_setBit 50 = .ok (.iconst 1, 1) := by decide +kernel
theorem dX3_setBit_51 : decode cX3_setBit 51 = .ok (.iload_n 2, 1) := by decide +kernel
theorem dX3_setBit_52 : decode cX3_setBit 52 = .ok (.ishl, 1) := by decide +kernel
theorem dX3_setBit_53 : decode cX3_setBit 53 = .ok (.iconst (-1), 1) := by decide +kernel
theorem dX3_setBit_54 : decode cX3_setBit 54 = .ok (.ixor, 1) := by decide +kernel
theorem dX3_setBit_55 : decode cX3_setBit 55 = .ok (.iand, 1) := by decide +kernel
theorem dX3_setBit_56 : decode cX3_setBit 56 = .ok (.iastore, 1) := by decide +kernel
theorem dX3_setBit_57 : decode cX3_setBit 57 = .ok (.return_, 1) := by decide +kernel
theorem dX3_freePairs_0 : decode cX3_freePairs 0 = .ok (.iconst 0, 1) := by decide +kernel
theorem dX3_freePairs_1 : decode cX3_freePairs 1 = .ok (.istore_n 1, 1) := by decide +kernel
theorem dX3_freePairs_2 : decode cX3_freePairs 2 = .ok (.iconst 0, 1) := by decide +kernel
theorem dX3_freePairs_3 : decode cX3_freePairs 3 = .ok (.istore_n 2, 1) := by decide +kernel
theorem dX3_freePairs_4 : decode cX3_freePairs 4 = .ok (.iload_n 2, 1) := by decide +kernel
theorem dX3_freePairs_5 : decode cX3_freePairs 5 = .ok (.aload_n 0, 1) := by decide +kernel
theorem dX3_freePairs_6 : decode cX3_freePairs 6 = .ok (.getfield 9, 3) := by decide +kernel
theorem dX3_freePairs_9 : decode cX3_freePairs 9 = .ok (.arraylength, 1) := by decide +kernel
theorem dX3_freePairs_10 : decode cX3_freePairs 10 = .ok (.if_icmp .ge 21, 3) := by decide +kernel
theorem dX3_freePairs_13 : decode cX3_freePairs 13 = .ok (.iload_n 1, 1) := by decide +kernel
theorem dX3_freePairs_14 : decode cX3_freePairs 14 = .ok (.aload_n 0, 1) := by decide +kernel
theorem dX3_freePairs_15 : decode cX3_freePairs 15 = .ok (.getfield 9, 3) := by decide +kernel
theorem dX3_freePairs_18 : decode cX3_freePairs 18 = .ok (.iload_n 2, 1) := by decide +kernel
theorem dX3_freePairs_19 : decode cX3_freePairs 19 = .ok (.iaload, 1) := by decide +kernel
theorem dX3_freePairs_20 : decode cX3_freePairs 20 = .ok (.invokestatic 37, 3) := by decide +kernel
theorem dX3_freePairs_23 : decode cX3_freePairs 23 = .ok (.iadd, 1) := by decide +kernel
theorem dX3_freePairs_24 : decode cX3_freePairs 24 = .ok (.istore_n 1, 1) := by decide +kernel
theorem dX3_freePairs_25 : decode cX3_freePairs 25 = .ok (.iinc 2 1, 3) := by decide +kernel
theorem dX3_freePairs_28 : decode cX3_freePairs 28 = .ok (.goto (-24), 3) := by decide +kernel
theorem dX3_freePairs_31 : decode cX3_freePairs 31 = .ok (.iload_n 1, 1) := by decide +kernel
theorem dX3_freePairs_32 : decode cX3_freePairs 32 = .ok (.iconst 2, 1) := by decide +kernel
theorem dX3_freePairs_33 : decode cX3_freePairs 33 = .ok (.idiv, 1) := by decide +kernel
theorem dX3_freePairs_34 : decode cX3_freePairs 34 = .ok (.ireturn, 1) := by decide +kernel
theorem dX3_setsTogether_0 : decode cX3_setsTogether 0 = .ok (.iconst 0, 1) := by decide +kernel
theorem dX3_setsTogether_1 : decode cX3_setsTogether 1 = .ok (.istore_n 2, 1) := by decide +kernel
theorem dX3_setsTogether_2 : decode cX3_setsTogether 2 = .ok (.aload_n 0, 1) := by decide +kernel
theorem dX3_setsTogether_3 : decode cX3_setsTogether 3 = .ok (.invokevirtual 42, 3) := by decide +kernel
theorem dX3_setsTogether_6 : decode cX3_setsTogether 6 = .ok (.istore_n 3, 1) := by decide +kernel
theorem dX3_setsTogether_7 : decode cX3_setsTogether 7 = .ok (.iconst 0, 1) := by decide +kernel
theorem dX3_setsTogether_8 : decode cX3_setsTogether 8 = .ok (.istore 4, 2) := by decide +kernel
theorem dX3_setsTogether_10 : decode cX3_setsTogether 10 = .ok (.iload 4, 2) := by decide +kernel
theorem dX3_setsTogether_12 : decode cX3_setsTogether 12 = .ok (.iload_n 3, 1) := by decide +kernel
theorem dX3_setsTogether_13 : decode cX3_setsTogether 13 = .ok (.if_icmp .gt 30, 3) := by decide +kernel
theorem dX3_setsTogether_16 : decode cX3_setsTogether 16 = .ok (.iload 4, 2) := by decide +kernel
theorem dX3_setsTogether_18 : decode cX3_setsTogether 18 = .ok (.invokestatic 37, 3) := by decide +kernel
theorem dX3_setsTogether_21 : decode cX3_setsTogether 21 = .ok (.iload_n 1, 1) := by decide +kernel
theorem dX3_setsTogether_22 : decode cX3_setsTogether 22 = .ok (.if_icmp .ne 15, 3) := by decide +kernel
theorem dX3_setsTogether_25 : decode cX3_setsTogether 25 = .ok (.aload_n 0, 1) := by decide +kernel
theorem dX3_setsTogether_26 : decode cX3_setsTogether 26 = .ok (.iload 4, 2) := by decide +kernel
theorem dX3_setsTogether_28 : decode cX3_setsTogether 28 = .ok (.invokevirtual 46, 3) := by decide +kernel
theorem dX3_setsTogether_31 : decode cX3_setsTogether 31 = .ok (.ifCond .eq 6, 3) := by decide +kernel
theorem dX3_setsTogether_34 : decode cX3_setsTogether 34 = .ok (.iinc 2 1, 3) := by decide +kernel
theorem dX3_setsTogether_37 : decode cX3_setsTogether 37 = .ok (.iinc 4 1, 3) := by decide +kernel
theorem dX3_setsTogether_40 : decode cX3_setsTogether 40 = .ok (.goto (-30), 3) := by decide +kernel
theorem dX3_setsTogether_43 : decode cX3_setsTogether 43 = .ok (.iload_n 2, 1) := by decide +kernel
theorem dX3_setsTogether_44 : decode cX3_setsTogether 44 = .ok (.ireturn, 1) := by decide +kernel
theorem dX3_goTogether_0 : decode cX3_goTogether 0 = .ok (.iconst 0, 1) := by decide +kernel
theorem dX3_goTogether_1 : decode cX3_goTogether 1 = .ok (.istore_n 2, 1) := by decide +kernel
theorem dX3_goTogether_2 : decode cX3_goTogether 2 = .ok (.iload_n 2, 1) := by decide +kernel
theorem dX3_goTogether_3 : decode cX3_goTogether 3 = .ok (.aload_n 0, 1) := by decide +kernel
theorem dX3_goTogether_4 : decode cX3_goTogether 4 = .ok (.getfield 15, 3) := by decide +kernel
theorem dX3_goTogether_7 : decode cX3_goTogether 7 = .ok (.if_icmp .ge 33, 3) := by decide +kernel
theorem dX3_goTogether_10 : decode cX3_goTogether 10 = .ok (.iload_n 1, 1) := by decide +kernel
theorem dX3_goTogether_11 : decode cX3_goTogether 11 = .ok (.iload_n 2, 1) := by decide +kernel
theorem dX3_goTogether_12 : decode cX3_goTogether 12 = .ok (.ishr, 1) := by decide +kernel
theorem dX3_goTogether_13 : decode cX3_goTogether 13 = .ok (.iconst 1, 1) := by decide +kernel
theorem dX3_goTogether_14 : decode cX3_goTogether 14 = .ok (.iand, 1) := by decide +kernel
theorem dX3_goTogether_15 : decode cX3_goTogether 15 = .ok (.iconst 1, 1) := by decide +kernel
theorem dX3_goTogether_16 : decode cX3_goTogether 16 = .ok (.if_icmp .ne 18, 3) := by decide +kernel
theorem dX3_goTogether_19 : decode cX3_goTogether 19 = .ok (.iload_n 1, 1) := by decide +kernel
theorem dX3_goTogether_20 : decode cX3_goTogether 20 = .ok (.aload_n 0, 1) := by decide +kernel
theorem dX3_goTogether_21 : decode cX3_goTogether 21 = .ok (.iload_n 2, 1) := by decide +kernel
theorem dX3_goTogether_22 : decode cX3_goTogether 22 = .ok (.invokevirtual 49, 3) := by decide +kernel
theorem dX3_goTogether_25 : decode cX3_goTogether 25 = .ok (.iand, 1) := by decide +kernel
theorem dX3_goTogether_26 : decode cX3_goTogether 26 = .ok (.iconst 1, 1) := by decide +kernel
theorem dX3_goTogether_27 : decode cX3_goTogether 27 = .ok (.iload_n 2, 1) := by decide +kernel
theorem dX3_goTogether_28 : decode cX3_goTogether 28 = .ok (.ishl, 1) := by decide +kernel
theorem dX3_goTogether_29 : decode cX3_goTogether 29 = .ok (.if_icmp .eq 5, 3) := by decide +kernel
theorem dX3_goTogether_32 : decode cX3_goTogether 32 = .ok (.iconst 0, 1) := by decide +kernel
theorem dX3_goTogether_33 : decode cX3_goTogether 33 = .ok (.ireturn, 1) := by decide +kernel
theorem dX3_goTogether_34 : decode cX3_goTogether 34 = .ok (.iinc 2 1, 3) := by decide +kernel
theorem dX3_goTogether_37 : decode cX3_goTogether 37 = .ok (.goto (-35), 3) := by decide +kernel
theorem dX3_goTogether_40 : decode cX3_goTogether 40 = .ok (.iconst 1, 1) := by decide +kernel
theorem dX3_goTogether_41 : decode cX3_goTogether 41 = .ok (.ireturn, 1) := by decide +kernel
theorem dX4_init_0 : decode cX4_init 0 = .ok (.aload_n 0, 1) := by decide +kernel
theorem dX4_init_1 : decode cX4_init 1 = .ok (.invokespecial 1, 3) := by decide +kernel
theorem dX4_init_4 : decode cX4_init 4 = .ok (.aload_n 0, 1) := by decide +kernel
theorem dX4_init_5 : decode cX4_init 5 = .ok (.iconst 0, 1) := by decide +kernel
theorem dX4_init_6 : decode cX4_init 6 = .ok (.putfield 9, 3) := by decide +kernel
theorem dX4_init_9 : decode cX4_init 9 = .ok (.aload_n 0, 1) := by decide +kernel
theorem dX4_init_10 : decode cX4_init 10 = .ok (.iconst 0, 1) := by decide +kernel
theorem dX4_init_11 : decode cX4_init 11 = .ok (.putfield 13, 3) := by decide +kernel
theorem dX4_init_14 : decode cX4_init 14 = .ok (.aload_n 0, 1) := by decide +kernel
theorem dX4_init_15 : decode cX4_init 15 = .ok (.iconst 0, 1) := by decide +kernel
theorem dX4_init_16 : decode cX4_init 16 = .ok (.putfield 16, 3) := by decide +kernel
theorem dX4_init_19 : decode cX4_init 19 = .ok (.aload_n 0, 1) := by decide +kernel
theorem dX4_init_20 : decode cX4_init 20 = .ok (.iconst 0, 1) := by decide +kernel
theorem dX4_init_21 : decode cX4_init 21 = .ok (.putfield 19, 3) := by decide +kernel
theorem dX4_init_24 : decode cX4_init 24 = .ok (.aload_n 0, 1) := by decide +kernel
theorem dX4_init_25 : decode cX4_init 25 = .ok (.iconst 0, 1) := by decide +kernel
theorem dX4_init_26 : decode cX4_init 26 = .ok (.putfield 22, 3) := by decide +kernel
theorem dX4_init_29 : decode cX4_init 29 = .ok (.return_, 1) := by decide +kernel
theorem dX5_init_0 : decode cX5_init 0 = .ok (.aload_n 0, 1) := by decide +kernel
theorem dX5_init_1 : decode cX5_init 1 = .ok (.invokespecial 3, 3) := by decide +kernel
theorem dX5_init_4 : decode cX5_init 4 = .ok (.aload_n 0, 1) := by decide +kernel
theorem dX5_init_5 : decode cX5_init 5 = .ok (.bipush 16, 2) := by decide +kernel
theorem dX5_init_7 : decode cX5_init 7 = .ok (.anewarray 11, 3) := by decide +kernel
theorem dX5_init_10 : decode cX5_init 10 = .ok (.putfield 13, 3) := by decide +kernel
theorem dX5_init_13 : decode cX5_init 13 = .ok (.aload_n 0, 1) := by decide +kernel
theorem dX5_init_14 : decode cX5_init 14 = .ok (.iconst 0, 1) := by decide +kernel
theorem dX5_init_15 : decode cX5_init 15 = .ok (.putfield 17, 3) := by decide +kernel
theorem dX5_init_18 : decode cX5_init 18 = .ok (.aload_n 0, 1) := by decide +kernel
theorem dX5_init_19 : decode cX5_init 19 = .ok (.iconst 0, 1) := by decide +kernel
theorem dX5_init_20 : decode cX5_init 20 = .ok (.putfield 21, 3) := by decide +kernel
theorem dX5_init_23 : decode cX5_init 23 = .ok (.aload_n 0, 1) := by decide +kernel
theorem dX5_init_24 : decode cX5_init 24 = .ok (.aload_n 1, 1) := by decide +kernel
theorem dX5_init_25 : decode cX5_init 25 = .ok (.putfield 24, 3) := by decide +kernel
theorem dX5_init_28 : decode cX5_init 28 = .ok (.iconst 0, 1) := by decide +kernel
theorem dX5_init_29 : decode cX5_init 29 = .ok (.istore_n 2, 1) := by decide +kernel
theorem dX5_init_30 : decode cX5_init 30 = .ok (.iload_n 2, 1) := by decide +kernel
theorem dX5_init_31 : decode cX5_init 31 = .ok (.aload_n 0, 1) := by decide +kernel
theorem dX5_init_32 : decode cX5_init 32 = .ok (.getfield 13, 3) := by decide +kernel
theorem dX5_init_35 : decode cX5_init 35 = .ok (.arraylength, 1) := by decide +kernel
theorem dX5_init_36 : decode cX5_init 36 = .ok (.if_icmp .ge 22, 3) := by decide +kernel
theorem dX5_init_39 : decode cX5_init 39 = .ok (.aload_n 0, 1) := by decide +kernel
theorem dX5_init_40 : decode cX5_init 40 = .ok (.getfield 13, 3) := by decide +kernel
theorem dX5_init_43 : decode cX5_init 43 = .ok (.iload_n 2, 1) := by decide +kernel
theorem dX5_init_44 : decode cX5_init 44 = .ok (.new 11, 3) := by decide +kernel
theorem dX5_init_47 : decode cX5_init 47 = .ok (.dup, 1) := by decide +kernel
theorem dX5_init_48 : decode cX5_init 48 = .ok (.invokespecial 28, 3) := by decide +kernel
theorem dX5_init_51 : decode cX5_init 51 = .ok (.aastore, 1) := by decide +kernel
theorem dX5_init_52 : decode cX5_init 52 = .ok (.iinc 2 1, 3) := by decide +kernel
theorem dX5_init_55 : decode cX5_init 55 = .ok (.goto (-25), 3) := by decide +kernel
theorem dX5_init_58 : decode cX5_init 58 = .ok (.return_, 1) := by decide +kernel
theorem dX5_size_0 : decode cX5_size 0 = .ok (.aload_n 0, 1) := by decide +kernel
theorem dX5_size_1 : decode cX5_size 1 = .ok (.getfield 17, 3) := by decide +kernel
theorem dX5_size_4 : decode cX5_size 4 = .ok (.ireturn, 1) := by decide +kernel
theorem dX5_at_0 : decode cX5_at 0 = .ok (.iload_n 1, 1) := by decide +kernel
theorem dX5_at_1 : decode cX5_at 1 = .ok (.ifCond .lt 21, 3) := by decide +kernel
theorem dX5_at_4 : decode cX5_at 4 = .ok (.iload_n 1, 1) := by decide +kernel
theorem dX5_at_5 : decode cX5_at 5 = .ok (.aload_n 0, 1) := by decide +kernel
theorem dX5_at_6 : decode cX5_at 6 = .ok (.getfield 13, 3) := by decide +kernel
theorem dX5_at_9 : decode cX5_at 9 = .ok (.arraylength, 1) := by decide +kernel
theorem dX5_at_10 : decode cX5_at 10 = .ok (.if_icmp .ge 12, 3) := by decide +kernel
theorem dX5_at_13 : decode cX5_at 13 = .ok (.aload_n 0, 1) := by decide +kernel
theorem dX5_at_14 : decode cX5_at 14 = .ok (.getfield 13, 3) := by decide +kernel
theorem dX5_at_17 : decode cX5_at 17 = .ok (.iload_n 1, 1) := by decide +kernel
theorem dX5_at_18 : decode cX5_at 18 = .ok (.aaload, 1) := by decide +kernel
theorem dX5_at_19 : decode cX5_at 19 = .ok (.goto 4, 3) := by decide +kernel
theorem dX5_at_22 : decode cX5_at 22 = .ok (.aconst_null, 1) := by decide +kernel
theorem dX5_at_23 : decode cX5_at 23 = .ok (.areturn, 1) := by decide +kernel
theorem dX5_read_0 : decode cX5_read 0 = .ok (.aload_n 0, 1) := by decide +kernel
theorem dX5_read_1 : decode cX5_read 1 = .ok (.iload_n 1, 1) := by decide +kernel
theorem dX5_read_2 : decode cX5_read 2 = .ok (.putfield 21, 3) := by decide +kernel
theorem dX5_read_5 : decode cX5_read 5 = .ok (.aload_n 0, 1) := by decide +kernel
theorem dX5_read_6 : decode cX5_read 6 = .ok (.iconst 0, 1) := by decide +kernel
theorem dX5_read_7 : decode cX5_read 7 = .ok (.putfield 17, 3) := by decide +kernel
theorem dX5_read_10 : decode cX5_read 10 = .ok (.aload_n 0, 1) := by decide +kernel
theorem dX5_read_11 : decode cX5_read 11 = .ok (.getfield 24, 3) := by decide +kernel
theorem dX5_read_14 : decode cX5_read 14 = .ok (.invokevirtual 29, 3) := by decide +kernel
theorem dX5_read_17 : decode cX5_read 17 = .ok (.iconst 0, 1) := by decide +kernel
theorem dX5_read_18 : decode cX5_read 18 = .ok (.istore_n 2, 1) := by decide +kernel
theorem dX5_read_19 : decode cX5_read 19 = .ok (.iload_n 2, 1) := by decide +kernel
theorem dX5_read_20 : decode cX5_read 20 = .ok (.aload_n 0, 1) := by decide +kernel
theorem dX5_read_21 : decode cX5_read 21 = .ok (.getfield 13, 3) := by decide +kernel
theorem dX5_read_24 : decode cX5_read 24 = .ok (.arraylength, 1) := by decide +kernel
theorem dX5_read_25 : decode cX5_read 25 = .ok (.if_icmp .ge 79, 3) := by decide +kernel
theorem dX5_read_28 : decode cX5_read 28 = .ok (.aload_n 0, 1) := by decide +kernel
theorem dX5_read_29 : decode cX5_read 29 = .ok (.aload_n 0, 1) := by decide +kernel
theorem dX5_read_30 : decode cX5_read 30 = .ok (.getfield 13, 3) := by decide +kernel
theorem dX5_read_33 : decode cX5_read 33 = .ok (.iload_n 2, 1) := by decide +kernel
theorem dX5_read_34 : decode cX5_read 34 = .ok (.aaload, 1) := by decide +kernel
theorem dX5_read_35 : decode cX5_read 35 = .ok (.invokevirtual 34, 3) := by decide +kernel
theorem dX5_read_38 : decode cX5_read 38 = .ok (.ifCond .ne 11, 3) := by decide +kernel
theorem dX5_read_41 : decode cX5_read 41 = .ok (.aload_n 0, 1) := by decide +kernel
theorem dX5_read_42 : decode cX5_read 42 = .ok (.getfield 24, 3) := by decide +kernel
theorem dX5_read_45 : decode cX5_read 45 = .ok (.invokevirtual 38, 3) := by decide +kernel
theorem dX5_read_48 : decode cX5_read 48 = .ok (.ireturn, 1) := by decide +kernel
theorem dX5_read_49 : decode cX5_read 49 = .ok (.aload_n 0, 1) := by decide +kernel
theorem dX5_read_50 : decode cX5_read 50 = .ok (.dup, 1) := by decide +kernel
theorem dX5_read_51 : decode cX5_read 51 = .ok (.getfield 17, 3) := by decide +kernel
theorem dX5_read_54 : decode cX5_read 54 = .ok (.iconst 1, 1) := by decide +kernel
theorem dX5_read_55 : decode cX5_read 55 = .ok (.iadd, 1) := by decide +kernel
theorem dX5_read_56 : decode cX5_read 56 = .ok (.putfield 17, 3) := by decide +kernel
theorem dX5_read_59 : decode cX5_read 59 = .ok (.aload_n 0, 1) := by decide +kernel
theorem dX5_read_60 : decode cX5_read 60 = .ok (.getfield 24, 3) := by decide +kernel
theorem dX5_read_63 : decode cX5_read 63 = .ok (.invokevirtual 42, 3) := by decide +kernel
theorem dX5_read_66 : decode cX5_read 66 = .ok (.aload_n 0, 1) := by decide +kernel
theorem dX5_read_67 : decode cX5_read 67 = .ok (.getfield 24, 3) := by decide +kernel
theorem dX5_read_70 : decode cX5_read 70 = .ok (.invokevirtual 45, 3) := by decide +kernel
theorem dX5_read_73 : decode cX5_read 73 = .ok (.ifCond .ne 5, 3) := by decide +kernel
theorem dX5_read_76 : decode cX5_read 76 = .ok (.iconst (-1), 1) := by decide +kernel
theorem dX5_read_77 : decode cX5_read 77 = .ok (.ireturn, 1) := by decide +kernel
theorem dX5_read_78 : decode cX5_read 78 = .ok (.aload_n 0, 1) := by decide +kernel
theorem dX5_read_79 : decode cX5_read 79 = .ok (.getfield 24, 3) := by decide +kernel
theorem dX5_read_82 : decode cX5_read 82 = .ok (.bipush 59, 2) := by decide +kernel
theorem dX5_read_84 : decode cX5_read 84 = .ok (.invokevirtual 48, 3) := by decide +kernel
theorem dX5_read_87 : decode cX5_read 87 = .ok (.ifCond .ne 11, 3) := by decide +kernel
theorem dX5_read_90 : decode cX5_read 90 = .ok (.aload_n 0, 1) := by decide +kernel
theorem dX5_read_91 : decode cX5_read 91 = .ok (.getfield 24, 3) := by decide +kernel
theorem dX5_read_94 : decode cX5_read 94 = .ok (.invokevirtual 38, 3) := by decide +kernel
theorem dX5_read_97 : decode cX5_read 97 = .ok (.ireturn, 1) := by decide +kernel
theorem dX5_read_98 : decode cX5_read 98 = .ok (.iinc 2 1, 3) := by decide +kernel
theorem dX5_read_101 : decode cX5_read 101 = .ok (.goto (-82), 3) := by decide +kernel
theorem dX5_read_104 : decode cX5_read 104 = .ok (.aload_n 0, 1) := by decide +kernel
theorem dX5_read_105 : decode cX5_read 105 = .ok (.getfield 24, 3) := by decide +kernel
theorem dX5_read_108 : decode cX5_read 108 = .ok (.invokevirtual 38, 3) := by decide +kernel
theorem dX5_read_111 : decode cX5_read 111 = .ok (.ireturn, 1) := by decide +kernel
theorem dX5_readLine_0 : decode cX5_readLine 0 = .ok (.aload_n 0, 1) := by decide +kernel
theorem dX5_readLine_1 : decode cX5_readLine 1 = .ok (.getfield 24, 3) := by decide +kernel
theorem dX5_readLine_4 : decode cX5_readLine 4 = .ok (.invokevirtual 42, 3) := by decide +kernel
theorem dX5_readLine_7 : decode cX5_readLine 7 = .ok (.aload_n 0, 1) := by decide +kernel
theorem dX5_readLine_8 : decode cX5_readLine 8 = .ok (.getfield 24, 3) := by decide +kernel
theorem dX5_readLine_11 : decode cX5_readLine 11 = .ok (.ldc 52, 2) := by decide +kernel
theorem dX5_readLine_13 : decode cX5_readLine 13 = .ok (.invokevirtual 54, 3) := by decide +kernel
theorem dX5_readLine_16 : decode cX5_readLine 16 = .ok (.ifCond .eq 10, 3) := by decide +kernel
theorem dX5_readLine_19 : decode cX5_readLine 19 = .ok (.aload_n 0, 1) := by decide +kernel
theorem dX5_readLine_20 : decode cX5_readLine 20 = .ok (.aload_n 1, 1) := by decide +kernel
theorem dX5_readLine_21 : decode cX5_readLine 21 = .ok (.iconst 0, 1) := by decide +kernel
theorem dX5_readLine_22 : decode cX5_readLine 22 = .ok (.invokevirtual 58, 3) := by decide +kernel
theorem dX5_readLine_25 : decode cX5_readLine 25 = .ok (.ireturn, 1) := by decide +kernel
theorem dX5_readLine_26 : decode cX5_readLine 26 = .ok (.aload_n 0, 1) := by decide +kernel
theorem dX5_readLine_27 : decode cX5_readLine 27 = .ok (.getfield 24, 3) := by decide +kernel
theorem dX5_readLine_30 : decode cX5_readLine 30 = .ok (.ldc 62, 2) := by decide +kernel
theorem dX5_readLine_32 : decode cX5_readLine 32 = .ok (.invokevirtual 54, 3) := by decide +kernel
theorem dX5_readLine_35 : decode cX5_readLine 35 = .ok (.ifCond .eq 10, 3) := by decide +kernel
theorem dX5_readLine_38 : decode cX5_readLine 38 = .ok (.aload_n 0, 1) := by decide +kernel
theorem dX5_readLine_39 : decode cX5_readLine 39 = .ok (.aload_n 1, 1) := by decide +kernel
theorem dX5_readLine_40 : decode cX5_readLine 40 = .ok (.iconst 1, 1) := by decide +kernel
theorem dX5_readLine_41 : decode cX5_readLine 41 = .ok (.invokevirtual 58, 3) := by decide +kernel
theorem dX5_readLine_44 : decode cX5_readLine 44 = .ok (.ireturn, 1) := by decide +kernel
theorem dX5_readLine_45 : decode cX5_readLine 45 = .ok (.aload_n 0, 1) := by decide +kernel
theorem dX5_readLine_46 : decode cX5_readLine 46 = .ok (.getfield 24, 3) := by decide +kernel
theorem dX5_readLine_49 : decode cX5_readLine 49 = .ok (.ldc 64, 2) := by decide +kernel
theorem dX5_readLine_51 : decode cX5_readLine 51 = .ok (.invokevirtual 54, 3) := by decide +kernel
theorem dX5_readLine_54 : decode cX5_readLine 54 = .ok (.ifCond .eq 9, 3) := by decide +kernel
theorem dX5_readLine_57 : decode cX5_readLine 57 = .ok (.aload_n 0, 1) := by decide +kernel
theorem dX5_readLine_58 : decode cX5_readLine 58 = .ok (.aload_n 1, 1) := by decide +kernel
theorem dX5_readLine_59 : decode cX5_readLine 59 = .ok (.invokevirtual 66, 3) := by decide +kernel
theorem dX5_readLine_62 : decode cX5_readLine 62 = .ok (.ireturn, 1) := by decide +kernel
theorem dX5_readLine_63 : decode cX5_readLine 63 = .ok (.aload_n 0, 1) := by decide +kernel
theorem dX5_readLine_64 : decode cX5_readLine 64 = .ok (.getfield 24, 3) := by decide +kernel
theorem dX5_readLine_67 : decode cX5_readLine 67 = .ok (.ldc 69, 2) := by decide +kernel
theorem dX5_readLine_69 : decode cX5_readLine 69 = .ok (.invokevirtual 54, 3) := by decide +kernel
theorem dX5_readLine_72 : decode cX5_readLine 72 = .ok (.ifCond .eq 15, 3) := by decide +kernel
theorem dX5_readLine_75 : decode cX5_readLine 75 = .ok (.aload_n 0, 1) := by decide +kernel
theorem dX5_readLine_76 : decode cX5_readLine 76 = .ok (.aload_n 1, 1) := by decide +kernel
theorem dX5_readLine_77 : decode cX5_readLine 77 = .ok (.invokevirtual 71, 3) := by decide +kernel
theorem dX5_readLine_80 : decode cX5_readLine 80 = .ok (.ifCond .eq 7, 3) := by decide +kernel
theorem dX5_readLine_83 : decode cX5_readLine 83 = .ok (.iconst 1, 1) := by decide +kernel
theorem dX5_readLine_84 : decode cX5_readLine 84 = .ok (.goto 4, 3) := by decide +kernel
theorem dX5_readLine_87 : decode cX5_readLine 87 = .ok (.iconst 0, 1) := by decide +kernel
theorem dX5_readLine_88 : decode cX5_readLine 88 = .ok (.ireturn, 1) := by decide +kernel
theorem dX5_readPair_0 : decode cX5_readPair 0 = .ok (.aload_n 0, 1) := by decide +kernel
theorem dX5_readPair_1 : decode cX5_readPair 1 = .ok (.getfield 24, 3) := by decide +kernel
theorem dX5_readPair_4 : decode cX5_readPair 4 = .ok (.invokevirtual 42, 3) := by decide +kernel
theorem dX5_readPair_7 : decode cX5_readPair 7 = .ok (.aload_n 0, 1) := by decide +kernel
theorem dX5_readPair_8 : decode cX5_readPair 8 = .ok (.getfield 24, 3) := by decide +kernel
theorem dX5_readPair_11 : decode cX5_readPair 11 = .ok (.invokevirtual 45, 3) := by decide +kernel
theorem dX5_readPair_14 : decode cX5_readPair 14 = .ok (.iconst 2, 1) := by decide +kernel
theorem dX5_readPair_15 : decode cX5_readPair 15 = .ok (.if_icmp .ne 10, 3) := by decide +kernel
theorem dX5_readPair_18 : decode cX5_readPair 18 = .ok (.aload_n 0, 1) := by decide +kernel
theorem dX5_readPair_19 : decode cX5_readPair 19 = .ok (.invokevirtual 74, 3) := by decide +kernel
theorem dX5_readPair_22 : decode cX5_readPair 22 = .ok (.ifCond .ne 5, 3) := by decide +kernel
theorem dX5_readPair_25 : decode cX5_readPair 25 = .ok (.iconst 0, 1) := by decide +kernel
theorem dX5_readPair_26 : decode cX5_readPair 26 = .ok (.ireturn, 1) := by decide +kernel
theorem dX5_readPair_27 : decode cX5_readPair 27 = .ok (.aload_n 1, 1) := by decide +kernel
theorem dX5_readPair_28 : decode cX5_readPair 28 = .ok (.iload_n 2, 1) := by decide +kernel
theorem dX5_readPair_29 : decode cX5_readPair 29 = .ok (.putfield 78, 3) := by decide +kernel
theorem dX5_readPair_32 : decode cX5_readPair 32 = .ok (.aload_n 1, 1) := by decide +kernel
theorem dX5_readPair_33 : decode cX5_readPair 33 = .ok (.aload_n 0, 1) := by decide +kernel
theorem dX5_readPair_34 : decode cX5_readPair 34 = .ok (.getfield 24, 3) := by decide +kernel
theorem dX5_readPair_37 : decode cX5_readPair 37 = .ok (.aload_n 0, 1) := by decide +kernel
theorem dX5_readPair_38 : decode cX5_readPair 38 = .ok (.getfield 24, 3) := by decide +kernel
theorem dX5_readPair_41 : decode cX5_readPair 41 = .ok (.invokevirtual 38, 3) := by decide +kernel
theorem dX5_readPair_44 : decode cX5_readPair 44 = .ok (.invokevirtual 81, 3) := by decide +kernel
theorem dX5_readPair_47 : decode cX5_readPair 47 = .ok (.putfield 85, 3) := by decide +kernel
theorem dX5_readPair_50 : decode cX5_readPair 50 = .ok (.aload_n 1, 1) := by decide +kernel
theorem dX5_readPair_51 : decode cX5_readPair 51 = .ok (.aload_n 0, 1) := by decide +kernel
theorem dX5_readPair_52 : decode cX5_readPair 52 = .ok (.getfield 24, 3) := by decide +kernel
theorem dX5_readPair_55 : decode cX5_readPair 55 = .ok (.aload_n 0, 1) := by decide +kernel
theorem dX5_readPair_56 : decode cX5_readPair 56 = .ok (.getfield 24, 3) := by decide +kernel
theorem dX5_readPair_59 : decode cX5_readPair 59 = .ok (.invokevirtual 38, 3) := by decide +kernel
theorem dX5_readPair_62 : decode cX5_readPair 62 = .ok (.iconst 1, 1) := by decide +kernel
theorem dX5_readPair_63 : decode cX5_readPair 63 = .ok (.iadd, 1) := by decide +kernel
theorem dX5_readPair_64 : decode cX5_readPair 64 = .ok (.invokevirtual 81, 3) := by decide +kernel
theorem dX5_readPair_67 : decode cX5_readPair 67 = .ok (.putfield 88, 3) := by decide +kernel
theorem dX5_readPair_70 : decode cX5_readPair 70 = .ok (.aload_n 1, 1) := by decide +kernel
theorem dX5_readPair_71 : decode cX5_readPair 71 = .ok (.getfield 85, 3) := by decide +kernel
theorem dX5_readPair_74 : decode cX5_readPair 74 = .ok (.aload_n 1, 1) := by decide +kernel
theorem dX5_readPair_75 : decode cX5_readPair 75 = .ok (.getfield 88, 3) := by decide +kernel
theorem dX5_readPair_78 : decode cX5_readPair 78 = .ok (.if_icmp .eq 7, 3) := by decide +kernel
theorem dX5_readPair_81 : decode cX5_readPair 81 = .ok (.iconst 1, 1) := by decide +kernel
theorem dX5_readPair_82 : decode cX5_readPair 82 = .ok (.goto 4, 3) := by decide +kernel
theorem dX5_readPair_85 : decode cX5_readPair 85 = .ok (.iconst 0, 1) := by decide +kernel
theorem dX5_readPair_86 : decode cX5_readPair 86 = .ok (.ireturn, 1) := by decide +kernel
theorem dX5_readLetters_0 : decode cX5_readLetters 0 = .ok (.aload_n 0, 1) := by decide +kernel
theorem dX5_readLetters_1 : decode cX5_readLetters 1 = .ok (.getfield 24, 3) := by decide +kernel
theorem dX5_readLetters_4 : decode cX5_readLetters 4 = .ok (.invokevirtual 42, 3) := by decide +kernel
theorem dX5_readLetters_7 : decode cX5_readLetters 7 = .ok (.aload_n 0, 1) := by decide +kernel
theorem dX5_readLetters_8 : decode cX5_readLetters 8 = .ok (.getfield 24, 3) := by decide +kernel
theorem dX5_readLetters_11 : decode cX5_readLetters 11 = .ok (.invokevirtual 91, 3) := by decide +kernel
theorem dX5_readLetters_14 : decode cX5_readLetters 14 = .ok (.istore_n 2, 1) := by decide +kernel
theorem dX5_readLetters_15 : decode cX5_readLetters 15 = .ok (.iload_n 2, 1) := by decide +kernel
theorem dX5_readLetters_16 : decode cX5_readLetters 16 = .ok (.iconst 1, 1) := by decide +kernel
theorem dX5_readLetters_17 : decode cX5_readLetters 17 = .ok (.if_icmp .lt 9, 3) := by decide +kernel
theorem dX5_readLetters_20 : decode cX5_readLetters 20 = .ok (.iload_n 2, 1) := by decide +kernel
theorem dX5_readLetters_21 : decode cX5_readLetters 21 = .ok (.bipush 6, 2) := by decide +kernel
theorem dX5_readLetters_23 : decode cX5_readLetters 23 = .ok (.if_icmp .le 5, 3) := by decide +kernel
theorem dX5_readLetters_26 : decode cX5_readLetters 26 = .ok (.iconst 0, 1) := by decide +kernel
theorem dX5_readLetters_27 : decode cX5_readLetters 27 = .ok (.ireturn, 1) := by decide +kernel
theorem dX5_readLetters_28 : decode cX5_readLetters 28 = .ok (.aload_n 1, 1) := by decide +kernel
theorem dX5_readLetters_29 : decode cX5_readLetters 29 = .ok (.iconst 2, 1) := by decide +kernel
theorem dX5_readLetters_30 : decode cX5_readLetters 30 = .ok (.putfield 78, 3) := by decide +kernel
theorem dX5_readLetters_33 : decode cX5_readLetters 33 = .ok (.aload_n 1, 1) := by decide +kernel
theorem dX5_readLetters_34 : decode cX5_readLetters 34 = .ok (.iload_n 2, 1) := by decide +kernel
theorem dX5_readLetters_35 : decode cX5_readLetters 35 = .ok (.putfield 85, 3) := by decide +kernel
theorem dX5_readLetters_38 : decode cX5_readLetters 38 = .ok (.aload_n 0, 1) := by decide +kernel
theorem dX5_readLetters_39 : decode cX5_readLetters 39 = .ok (.iload_n 2, 1) := by decide +kernel
theorem dX5_readLetters_40 : decode cX5_readLetters 40 = .ok (.putfield 21, 3) := by decide +kernel
theorem dX5_readLetters_43 : decode cX5_readLetters 43 = .ok (.iconst 1, 1) := by decide +kernel
theorem dX5_readLetters_44 : decode cX5_readLetters 44 = .ok (.ireturn, 1) := by decide +kernel
theorem dX5_readHeap_0 : decode cX5_readHeap 0 = .ok (.aload_n 0, 1) := by decide +kernel
theorem dX5_readHeap_1 : decode cX5_readHeap 1 = .ok (.getfield 24, 3) := by decide +kernel
theorem dX5_readHeap_4 : decode cX5_readHeap 4 = .ok (.invokevirtual 42, 3) := by decide +kernel
theorem dX5_readHeap_7 : decode cX5_readHeap 7 = .ok (.aload_n 0, 1) := by decide +kernel
theorem dX5_readHeap_8 : decode cX5_readHeap 8 = .ok (.getfield 24, 3) := by decide +kernel
theorem dX5_readHeap_11 : decode cX5_readHeap 11 = .ok (.invokevirtual 91, 3) := by decide +kernel
theorem dX5_readHeap_14 : decode cX5_readHeap 14 = .ok (.istore_n 2, 1) := by decide +kernel
theorem dX5_readHeap_15 : decode cX5_readHeap 15 = .ok (.iload_n 2, 1) := by decide +kernel
theorem dX5_readHeap_16 : decode cX5_readHeap 16 = .ok (.ifCond .lt 8, 3) := by decide +kernel
theorem dX5_readHeap_19 : decode cX5_readHeap 19 = .ok (.iload_n 2, 1) := by decide +kernel
theorem dX5_readHeap_20 : decode cX5_readHeap 20 = .ok (.iconst 4, 1) := by decide +kernel
theorem dX5_readHeap_21 : decode cX5_readHeap 21 = .ok (.if_icmp .lt 5, 3) := by decide +kernel
theorem dX5_readHeap_24 : decode cX5_readHeap 24 = .ok (.iconst 0, 1) := by decide +kernel
theorem dX5_readHeap_25 : decode cX5_readHeap 25 = .ok (.ireturn, 1) := by decide +kernel
theorem dX5_readHeap_26 : decode cX5_readHeap 26 = .ok (.aload_n 1, 1) := by decide +kernel
theorem dX5_readHeap_27 : decode cX5_readHeap 27 = .ok (.iconst 3, 1) := by decide +kernel
theorem dX5_readHeap_28 : decode cX5_readHeap 28 = .ok (.putfield 78, 3) := by decide +kernel
theorem dX5_readHeap_31 : decode cX5_readHeap 31 = .ok (.aload_n 1, 1) := by decide +kernel
theorem dX5_readHeap_32 : decode cX5_readHeap 32 = .ok (.iload_n 2, 1) := by decide +kernel
theorem dX5_readHeap_33 : decode cX5_readHeap 33 = .ok (.putfield 85, 3) := by decide +kernel
theorem dX5_readHeap_36 : decode cX5_readHeap 36 = .ok (.aload_n 0, 1) := by decide +kernel
theorem dX5_readHeap_37 : decode cX5_readHeap 37 = .ok (.getfield 24, 3) := by decide +kernel
theorem dX5_readHeap_40 : decode cX5_readHeap 40 = .ok (.invokevirtual 42, 3) := by decide +kernel
theorem dX5_readHeap_43 : decode cX5_readHeap 43 = .ok (.aload_n 0, 1) := by decide +kernel
theorem dX5_readHeap_44 : decode cX5_readHeap 44 = .ok (.getfield 24, 3) := by decide +kernel
theorem dX5_readHeap_47 : decode cX5_readHeap 47 = .ok (.ldc 94, 2) := by decide +kernel
theorem dX5_readHeap_49 : decode cX5_readHeap 49 = .ok (.invokevirtual 54, 3) := by decide +kernel
theorem dX5_readHeap_52 : decode cX5_readHeap 52 = .ok (.ifCond .ne 5, 3) := by decide +kernel
theorem dX5_readHeap_55 : decode cX5_readHeap 55 = .ok (.iconst 0, 1) := by decide +kernel
theorem dX5_readHeap_56 : decode cX5_readHeap 56 = .ok (.ireturn, 1) := by decide +kernel
theorem dX5_readHeap_57 : decode cX5_readHeap 57 = .ok (.aload_n 0, 1) := by decide +kernel
theorem dX5_readHeap_58 : decode cX5_readHeap 58 = .ok (.getfield 24, 3) := by decide +kernel
theorem dX5_readHeap_61 : decode cX5_readHeap 61 = .ok (.invokevirtual 42, 3) := by decide +kernel
theorem dX5_readHeap_64 : decode cX5_readHeap 64 = .ok (.aload_n 0, 1) := by decide +kernel
theorem dX5_readHeap_65 : decode cX5_readHeap 65 = .ok (.getfield 24, 3) := by decide +kernel
theorem dX5_readHeap_68 : decode cX5_readHeap 68 = .ok (.ldc 96, 2) := by decide +kernel
theorem dX5_readHeap_70 : decode cX5_readHeap 70 = .ok (.invokevirtual 54, 3) := by decide +kernel
theorem dX5_readHeap_73 : decode cX5_readHeap 73 = .ok (.istore_n 3, 1) := by decide +kernel
theorem dX5_readHeap_74 : decode cX5_readHeap 74 = .ok (.aload_n 1, 1) := by decide +kernel
theorem dX5_readHeap_75 : decode cX5_readHeap 75 = .ok (.aload_n 0, 1) := by decide +kernel
theorem dX5_readHeap_76 : decode cX5_readHeap 76 = .ok (.getfield 24, 3) := by decide +kernel
theorem dX5_readHeap_79 : decode cX5_readHeap 79 = .ok (.invokevirtual 38, 3) := by decide +kernel
theorem dX5_readHeap_82 : decode cX5_readHeap 82 = .ok (.putfield 98, 3) := by decide +kernel
theorem dX5_readHeap_85 : decode cX5_readHeap 85 = .ok (.aload_n 1, 1) := by decide +kernel
theorem dX5_readHeap_86 : decode cX5_readHeap 86 = .ok (.iload_n 3, 1) := by decide +kernel
theorem dX5_readHeap_87 : decode cX5_readHeap 87 = .ok (.ifCond .eq 13, 3) := by decide +kernel
theorem dX5_readHeap_90 : decode cX5_readHeap 90 = .ok (.aload_n 0, 1) := by decide +kernel
theorem dX5_readHeap_91 : decode cX5_readHeap 91 = .ok (.getfield 24, 3) := by decide +kernel
theorem dX5_readHeap_94 : decode cX5_readHeap 94 = .ok (.invokevirtual 38, 3) := by decide +kernel
theorem dX5_readHeap_97 : decode cX5_readHeap 97 = .ok (.goto 10, 3) := by decide +kernel
theorem dX5_readHeap_100 : decode cX5_readHeap 100 = .ok (.aload_n 0, 1) := by decide +kernel
theorem dX5_readHeap_101 : decode cX5_readHeap 101 = .ok (.getfield 24, 3) := by decide +kernel
theorem dX5_readHeap_104 : decode cX5_readHeap 104 = .ok (.invokevirtual 101, 3) := by decide +kernel
theorem dX5_readHeap_107 : decode cX5_readHeap 107 = .ok (.putfield 104, 3) := by decide +kernel
theorem dX5_readHeap_110 : decode cX5_readHeap 110 = .ok (.iload_n 3, 1) := by decide +kernel
theorem dX5_readHeap_111 : decode cX5_readHeap 111 = .ok (.ifCond .ne 33, 3) := by decide +kernel
theorem dX5_readHeap_114 : decode cX5_readHeap 114 = .ok (.aload_n 0, 1) := by decide +kernel
theorem dX5_readHeap_115 : decode cX5_readHeap 115 = .ok (.getfield 24, 3) := by decide +kernel
theorem dX5_readHeap_118 : decode cX5_readHeap 118 = .ok (.invokevirtual 45, 3) := by decide +kernel
theorem dX5_readHeap_121 : decode cX5_readHeap 121 = .ok (.iconst 1, 1) := by decide +kernel
theorem dX5_readHeap_122 : decode cX5_readHeap 122 = .ok (.if_icmp .lt 26, 3) := by decide +kernel
theorem dX5_readHeap_125 : decode cX5_readHeap 125 = .ok (.aload_n 0, 1) := by decide +kernel
theorem dX5_readHeap_126 : decode cX5_readHeap 126 = .ok (.getfield 24, 3) := by decide +kernel
theorem dX5_readHeap_129 : decode cX5_readHeap 129 = .ok (.invokevirtual 45, 3) := by decide +kernel
theorem dX5_readHeap_132 : decode cX5_readHeap 132 = .ok (.bipush 24, 2) := by decide +kernel
theorem dX5_readHeap_134 : decode cX5_readHeap 134 = .ok (.if_icmp .gt 14, 3) := by decide +kernel
theorem dX5_readHeap_137 : decode cX5_readHeap 137 = .ok (.aload_n 0, 1) := by decide +kernel
theorem dX5_readHeap_138 : decode cX5_readHeap 138 = .ok (.invokevirtual 74, 3) := by decide +kernel
theorem dX5_readHeap_141 : decode cX5_readHeap 141 = .ok (.ifCond .eq 7, 3) := by decide +kernel
theorem dX5_readHeap_144 : decode cX5_readHeap 144 = .ok (.iconst 1, 1) := by decide +kernel
theorem dX5_readHeap_145 : decode cX5_readHeap 145 = .ok (.goto 4, 3) := by decide +kernel
theorem dX5_readHeap_148 : decode cX5_readHeap 148 = .ok (.iconst 0, 1) := by decide +kernel
theorem dX5_readHeap_149 : decode cX5_readHeap 149 = .ok (.ireturn, 1) := by decide +kernel
theorem dX5_isOfLetters_0 : decode cX5_isOfLetters 0 = .ok (.aload_n 0, 1) := by decide +kernel
theorem dX5_isOfLetters_1 : decode cX5_isOfLetters 1 = .ok (.getfield 24, 3) := by decide +kernel
theorem dX5_isOfLetters_4 : decode cX5_isOfLetters 4 = .ok (.invokevirtual 38, 3) := by decide +kernel
theorem dX5_isOfLetters_7 : decode cX5_isOfLetters 7 = .ok (.istore_n 1, 1) := by decide +kernel
theorem dX5_isOfLetters_8 : decode cX5_isOfLetters 8 = .ok (.iload_n 1, 1) := by decide +kernel
theorem dX5_isOfLetters_9 : decode cX5_isOfLetters 9 = .ok (.aload_n 0, 1) := by decide +kernel
theorem dX5_isOfLetters_10 : decode cX5_isOfLetters 10 = .ok (.getfield 24, 3) := by decide +kernel
theorem dX5_isOfLetters_13 : decode cX5_isOfLetters 13 = .ok (.invokevirtual 101, 3) := by decide +kernel
theorem dX5_isOfLetters_16 : decode cX5_isOfLetters 16 = .ok (.if_icmp .ge 32, 3) := by decide +kernel
theorem dX5_isOfLetters_19 : decode cX5_isOfLetters 19 = .ok (.aload_n 0, 1) := by decide +kernel
theorem dX5_isOfLetters_20 : decode cX5_isOfLetters 20 = .ok (.getfield 24, 3) := by decide +kernel
theorem dX5_isOfLetters_23 : decode cX5_isOfLetters 23 = .ok (.iload_n 1, 1) := by decide +kernel
theorem dX5_isOfLetters_24 : decode cX5_isOfLetters 24 = .ok (.invokevirtual 81, 3) := by decide +kernel
theorem dX5_isOfLetters_27 : decode cX5_isOfLetters 27 = .ok (.istore_n 2, 1) := by decide +kernel
theorem dX5_isOfLetters_28 : decode cX5_isOfLetters 28 = .ok (.iload_n 2, 1) := by decide +kernel
theorem dX5_isOfLetters_29 : decode cX5_isOfLetters 29 = .ok (.ifCond .lt 11, 3) := by decide +kernel
theorem dX5_isOfLetters_32 : decode cX5_isOfLetters 32 = .ok (.iload_n 2, 1) := by decide +kernel
theorem dX5_isOfLetters_33 : decode cX5_isOfLetters 33 = .ok (.aload_n 0, 1) := by decide +kernel
theorem dX5_isOfLetters_34 : decode cX5_isOfLetters 34 = .ok (.getfield 21, 3) := by decide +kernel
theorem dX5_isOfLetters_37 : decode cX5_isOfLetters 37 = .ok (.if_icmp .lt 5, 3) := by decide +kernel
theorem dX5_isOfLetters_40 : decode cX5_isOfLetters 40 = .ok (.iconst 0, 1) := by decide +kernel
theorem dX5_isOfLetters_41 : decode cX5_isOfLetters 41 = .ok (.ireturn, 1) := by decide +kernel
theorem dX5_isOfLetters_42 : decode cX5_isOfLetters 42 = .ok (.iinc 1 1, 3) := by decide +kernel
theorem dX5_isOfLetters_45 : decode cX5_isOfLetters 45 = .ok (.goto (-37), 3) := by decide +kernel
theorem dX5_isOfLetters_48 : decode cX5_isOfLetters 48 = .ok (.iconst 1, 1) := by decide +kernel
theorem dX5_isOfLetters_49 : decode cX5_isOfLetters 49 = .ok (.ireturn, 1) := by decide +kernel
theorem dX6_init_0 : decode cX6_init 0 = .ok (.aload_n 0, 1) := by decide +kernel
theorem dX6_init_1 : decode cX6_init 1 = .ok (.invokespecial 3, 3) := by decide +kernel
theorem dX6_init_4 : decode cX6_init 4 = .ok (.aload_n 0, 1) := by decide +kernel
theorem dX6_init_5 : decode cX6_init 5 = .ok (.bipush 21, 2) := by decide +kernel
theorem dX6_init_7 : decode cX6_init 7 = .ok (.bipush 64, 2) := by decide +kernel
theorem dX6_init_9 : decode cX6_init 9 = .ok (.multianewarray 9 2, 4) := by decide +kernel
theorem dX6_init_13 : decode cX6_init 13 = .ok (.putfield 11, 3) := by decide +kernel
theorem dX6_init_16 : decode cX6_init 16 = .ok (.aload_n 0, 1) := by decide +kernel
theorem dX6_init_17 : decode cX6_init 17 = .ok (.bipush 61, 2) := by decide +kernel
theorem dX6_init_19 : decode cX6_init 19 = .ok (.newarray .long, 2) := by decide +kernel
theorem dX6_init_21 : decode cX6_init 21 = .ok (.putfield 16, 3) := by decide +kernel
theorem dX6_init_24 : decode cX6_init 24 = .ok (.aload_n 0, 1) := by decide +kernel
theorem dX6_init_25 : decode cX6_init 25 = .ok (.bipush 7, 2) := by decide +kernel
theorem dX6_init_27 : decode cX6_init 27 = .ok (.newarray .int, 2) := by decide +kernel
theorem dX6_init_29 : decode cX6_init 29 = .ok (.putfield 20, 3) := by decide +kernel
theorem dX6_init_32 : decode cX6_init 32 = .ok (.aload_n 0, 1) := by decide +kernel
theorem dX6_init_33 : decode cX6_init 33 = .ok (.iconst 0, 1) := by decide +kernel
theorem dX6_init_34 : decode cX6_init 34 = .ok (.putfield 24, 3) := by decide +kernel
theorem dX6_init_37 : decode cX6_init 37 = .ok (.aload_n 0, 1) := by decide +kernel
theorem dX6_init_38 : decode cX6_init 38 = .ok (.lconst 0, 1) := by decide +kernel
theorem dX6_init_39 : decode cX6_init 39 = .ok (.putfield 28, 3) := by decide +kernel
theorem dX6_init_42 : decode cX6_init 42 = .ok (.aload_n 0, 1) := by decide +kernel
theorem dX6_init_43 : decode cX6_init 43 = .ok (.aload_n 1, 1) := by decide +kernel
theorem dX6_init_44 : decode cX6_init 44 = .ok (.putfield 32, 3) := by decide +kernel
theorem dX6_init_47 : decode cX6_init 47 = .ok (.return_, 1) := by decide +kernel
theorem dX6_barredBehind_0 : decode cX6_barredBehind 0 = .ok (.aload_n 0, 1) := by decide +kernel
theorem dX6_barredBehind_1 : decode cX6_barredBehind 1 = .ok (.getfield 32, 3) := by decide +kernel
theorem dX6_barredBehind_4 : decode cX6_barredBehind 4 = .ok (.iload_n 2, 1) := by decide +kernel
theorem dX6_barredBehind_5 : decode cX6_barredBehind 5 = .ok (.invokevirtual 36, 3) := by decide +kernel
theorem dX6_barredBehind_8 : decode cX6_barredBehind 8 = .ok (.iload_n 1, 1) := by decide +kernel
theorem dX6_barredBehind_9 : decode cX6_barredBehind 9 = .ok (.iconst 1, 1) := by decide +kernel
theorem dX6_barredBehind_10 : decode cX6_barredBehind 10 = .ok (.iload_n 2, 1) := by decide +kernel
theorem dX6_barredBehind_11 : decode cX6_barredBehind 11 = .ok (.ishl, 1) := by decide +kernel
theorem dX6_barredBehind_12 : decode cX6_barredBehind 12 = .ok (.iconst 1, 1) := by decide +kernel
theorem dX6_barredBehind_13 : decode cX6_barredBehind 13 = .ok (.isub, 1) := by decide +kernel
theorem dX6_barredBehind_14 : decode cX6_barredBehind 14 = .ok (.ior, 1) := by decide +kernel
theorem dX6_barredBehind_15 : decode cX6_barredBehind 15 = .ok (.iand, 1) := by decide +kernel
theorem dX6_barredBehind_16 : decode cX6_barredBehind 16 = .ok (.ireturn, 1) := by decide +kernel
theorem dX6_heapsOfLength_0 : decode cX6_heapsOfLength 0 = .ok (.iconst 0, 1) := by decide +kernel
theorem dX6_heapsOfLength_1 : decode cX6_heapsOfLength 1 = .ok (.istore_n 2, 1) := by decide +kernel
theorem dX6_heapsOfLength_2 : decode cX6_heapsOfLength 2 = .ok (.iload_n 2, 1) := by decide +kernel
theorem dX6_heapsOfLength_3 : decode cX6_heapsOfLength 3 = .ok (.aload_n 0, 1) := by decide +kernel
theorem dX6_heapsOfLength_4 : decode cX6_heapsOfLength 4 = .ok (.getfield 20, 3) := by decide +kernel
theorem dX6_heapsOfLength_7 : decode cX6_heapsOfLength 7 = .ok (.arraylength, 1) := by decide +kernel
theorem dX6_heapsOfLength_8 : decode cX6_heapsOfLength 8 = .ok (.if_icmp .ge 23, 3) := by decide +kernel
theorem dX6_heapsOfLength_11 : decode cX6_heapsOfLength 11 = .ok (.aload_n 0, 1) := by decide +kernel
theorem dX6_heapsOfLength_12 : decode cX6_heapsOfLength 12 = .ok (.getfield 20, 3) := by decide +kernel
theorem dX6_heapsOfLength_15 : decode cX6_heapsOfLength 15 = .ok (.iload_n 2, 1) := by decide +kernel
theorem dX6_heapsOfLength_16 : decode cX6_heapsOfLength 16 = .ok (.aload_n 0, 1) := by decide +kernel
theorem dX6_heapsOfLength_17 : decode cX6_heapsOfLength 17 = .ok (.getfield 32, 3) := by decide +kernel
theorem dX6_heapsOfLength_20 : decode cX6_heapsOfLength 20 = .ok (.iload_n 2, 1) := by decide +kernel
theorem dX6_heapsOfLength_21 : decode cX6_heapsOfLength 21 = .ok (.invokevirtual 42, 3) := by decide +kernel
theorem dX6_heapsOfLength_24 : decode cX6_heapsOfLength 24 = .ok (.iastore, 1) := by decide +kernel
theorem dX6_heapsOfLength_25 : decode cX6_heapsOfLength 25 = .ok (.iinc 2 1, 3) := by decide +kernel
theorem dX6_heapsOfLength_28 : decode cX6_heapsOfLength 28 = .ok (.goto (-26), 3) := by decide +kernel
theorem dX6_heapsOfLength_31 : decode cX6_heapsOfLength 31 = .ok (.aload_n 0, 1) := by decide +kernel
theorem dX6_heapsOfLength_32 : decode cX6_heapsOfLength 32 = .ok (.getfield 16, 3) := by decide +kernel
theorem dX6_heapsOfLength_35 : decode cX6_heapsOfLength 35 = .ok (.iconst 0, 1) := by decide +kernel
theorem dX6_heapsOfLength_36 : decode cX6_heapsOfLength 36 = .ok (.lconst 1, 1) := by decide +kernel
theorem dX6_heapsOfLength_37 : decode cX6_heapsOfLength 37 = .ok (.lastore, 1) := by decide +kernel
theorem dX6_heapsOfLength_38 : decode cX6_heapsOfLength 38 = .ok (.iconst 1, 1) := by decide +kernel
theorem dX6_heapsOfLength_39 : decode cX6_heapsOfLength 39 = .ok (.istore_n 2, 1) := by decide +kernel
theorem dX6_heapsOfLength_40 : decode cX6_heapsOfLength 40 = .ok (.iload_n 2, 1) := by decide +kernel
theorem dX6_heapsOfLength_41 : decode cX6_heapsOfLength 41 = .ok (.iload_n 1, 1) := by decide +kernel
theorem dX6_heapsOfLength_42 : decode cX6_heapsOfLength 42 = .ok (.if_icmp .gt 29, 3) := by decide +kernel
theorem dX6_heapsOfLength_45 : decode cX6_heapsOfLength 45 = .ok (.iload_n 2, 1) := by decide +kernel
theorem dX6_heapsOfLength_46 : decode cX6_heapsOfLength 46 = .ok (.aload_n 0, 1) := by decide +kernel
theorem dX6_heapsOfLength_47 : decode cX6_heapsOfLength 47 = .ok (.getfield 16, 3) := by decide +kernel
theorem dX6_heapsOfLength_50 : decode cX6_heapsOfLength 50 = .ok (.arraylength, 1) := by decide +kernel
theorem dX6_heapsOfLength_51 : decode cX6_heapsOfLength 51 = .ok (.if_icmp .ge 20, 3) := by decide +kernel
theorem dX6_heapsOfLength_54 : decode cX6_heapsOfLength 54 = .ok (.aload_n 0, 1) := by decide +kernel
theorem dX6_heapsOfLength_55 : decode cX6_heapsOfLength 55 = .ok (.getfield 16, 3) := by decide +kernel
theorem dX6_heapsOfLength_58 : decode cX6_heapsOfLength 58 = .ok (.iload_n 2, 1) := by decide +kernel
theorem dX6_heapsOfLength_59 : decode cX6_heapsOfLength 59 = .ok (.aload_n 0, 1) := by decide +kernel
theorem dX6_heapsOfLength_60 : decode cX6_heapsOfLength 60 = .ok (.iload_n 2, 1) := by decide +kernel
theorem dX6_heapsOfLength_61 : decode cX6_heapsOfLength 61 = .ok (.invokevirtual 45, 3) := by decide +kernel
theorem dX6_heapsOfLength_64 : decode cX6_heapsOfLength 64 = .ok (.lastore, 1) := by decide +kernel
theorem dX6_heapsOfLength_65 : decode cX6_heapsOfLength 65 = .ok (.iinc 2 1, 3) := by decide +kernel
theorem dX6_heapsOfLength_68 : decode cX6_heapsOfLength 68 = .ok (.goto (-28), 3) := by decide +kernel
theorem dX6_heapsOfLength_71 : decode cX6_heapsOfLength 71 = .ok (.iload_n 1, 1) := by decide +kernel
theorem dX6_heapsOfLength_72 : decode cX6_heapsOfLength 72 = .ok (.ifCond .lt 22, 3) := by decide +kernel
theorem dX6_heapsOfLength_75 : decode cX6_heapsOfLength 75 = .ok (.iload_n 1, 1) := by decide +kernel
theorem dX6_heapsOfLength_76 : decode cX6_heapsOfLength 76 = .ok (.aload_n 0, 1) := by decide +kernel
theorem dX6_heapsOfLength_77 : decode cX6_heapsOfLength 77 = .ok (.getfield 16, 3) := by decide +kernel
theorem dX6_heapsOfLength_80 : decode cX6_heapsOfLength 80 = .ok (.arraylength, 1) := by decide +kernel
theorem dX6_heapsOfLength_81 : decode cX6_heapsOfLength 81 = .ok (.if_icmp .ge 13, 3) := by decide +kernel
theorem dX6_heapsOfLength_84 : decode cX6_heapsOfLength 84 = .ok (.aload_n 0, 1) := by decide +kernel
theorem dX6_heapsOfLength_85 : decode cX6_heapsOfLength 85 = .ok (.getfield 16, 3) := by decide +kernel
theorem dX6_heapsOfLength_88 : decode cX6_heapsOfLength 88 = .ok (.iload_n 1, 1) := by decide +kernel
theorem dX6_heapsOfLength_89 : decode cX6_heapsOfLength 89 = .ok (.laload, 1) := by decide +kernel
theorem dX6_heapsOfLength_90 : decode cX6_heapsOfLength 90 = .ok (.l2i, 1) := by decide +kernel
theorem dX6_heapsOfLength_91 : decode cX6_heapsOfLength 91 = .ok (.goto 4, 3) := by decide +kernel
theorem dX6_heapsOfLength_94 : decode cX6_heapsOfLength 94 = .ok (.iconst 0, 1) := by decide +kernel
theorem dX6_heapsOfLength_95 : decode cX6_heapsOfLength 95 = .ok (.ireturn, 1) := by decide +kernel
theorem dX6_sumOverSets_0 : decode cX6_sumOverSets 0 = .ok (.lconst 0, 1) := by decide +kernel
theorem dX6_sumOverSets_1 : decode cX6_sumOverSets 1 = .ok (.lstore_n 2, 1) := by decide +kernel
theorem dX6_sumOverSets_2 : decode cX6_sumOverSets 2 = .ok (.iconst 1, 1) := by decide +kernel
theorem dX6_sumOverSets_3 : decode cX6_sumOverSets 3 = .ok (.istore 4, 2) := by decide +kernel
theorem dX6_sumOverSets_5 : decode cX6_sumOverSets 5 = .ok (.iload 4, 2) := by decide +kernel
theorem dX6_sumOverSets_7 : decode cX6_sumOverSets 7 = .ok (.iload_n 1, 1) := by decide +kernel
theorem dX6_sumOverSets_8 : decode cX6_sumOverSets 8 = .ok (.if_icmp .gt 80, 3) := by decide +kernel
theorem dX6_sumOverSets_11 : decode cX6_sumOverSets 11 = .ok (.iload 4, 2) := by decide +kernel
theorem dX6_sumOverSets_13 : decode cX6_sumOverSets 13 = .ok (.aload_n 0, 1) := by decide +kernel
theorem dX6_sumOverSets_14 : decode cX6_sumOverSets 14 = .ok (.getfield 20, 3) := by decide +kernel
theorem dX6_sumOverSets_17 : decode cX6_sumOverSets 17 = .ok (.arraylength, 1) := by decide +kernel
theorem dX6_sumOverSets_18 : decode cX6_sumOverSets 18 = .ok (.if_icmp .ge 70, 3) := by decide +kernel
theorem dX6_sumOverSets_21 : decode cX6_sumOverSets 21 = .ok (.iload_n 1, 1) := by decide +kernel
theorem dX6_sumOverSets_22 : decode cX6_sumOverSets 22 = .ok (.iload 4, 2) := by decide +kernel
theorem dX6_sumOverSets_24 : decode cX6_sumOverSets 24 = .ok (.isub, 1) := by decide +kernel
theorem dX6_sumOverSets_25 : decode cX6_sumOverSets 25 = .ok (.istore 5, 2) := by decide +kernel
theorem dX6_sumOverSets_27 : decode cX6_sumOverSets 27 = .ok (.iload 5, 2) := by decide +kernel
theorem dX6_sumOverSets_29 : decode cX6_sumOverSets 29 = .ok (.aload_n 0, 1) := by decide +kernel
theorem dX6_sumOverSets_30 : decode cX6_sumOverSets 30 = .ok (.getfield 16, 3) := by decide +kernel
theorem dX6_sumOverSets_33 : decode cX6_sumOverSets 33 = .ok (.arraylength, 1) := by decide +kernel
theorem dX6_sumOverSets_34 : decode cX6_sumOverSets 34 = .ok (.if_icmp .ge 26, 3) := by decide +kernel
theorem dX6_sumOverSets_37 : decode cX6_sumOverSets 37 = .ok (.aload_n 0, 1) := by decide +kernel
theorem dX6_sumOverSets_38 : decode cX6_sumOverSets 38 = .ok (.getfield 20, 3) := by decide +kernel
theorem dX6_sumOverSets_41 : decode cX6_sumOverSets 41 = .ok (.iload 4, 2) := by decide +kernel
theorem dX6_sumOverSets_43 : decode cX6_sumOverSets 43 = .ok (.iaload, 1) := by decide +kernel
theorem dX6_sumOverSets_44 : decode cX6_sumOverSets 44 = .ok (.i2l, 1) := by decide +kernel
theorem dX6_sumOverSets_45 : decode cX6_sumOverSets 45 = .ok (.aload_n 0, 1) := by decide +kernel
theorem dX6_sumOverSets_46 : decode cX6_sumOverSets 46 = .ok (.getfield 16, 3) := by decide +kernel
theorem dX6_sumOverSets_49 : decode cX6_sumOverSets 49 = .ok (.iload 5, 2) := by decide +kernel
theorem dX6_sumOverSets_51 : decode cX6_sumOverSets 51 = .ok (.laload, 1) := by decide +kernel
theorem dX6_sumOverSets_52 : decode cX6_sumOverSets 52 = .ok (.lmul, 1) := by decide +kernel
theorem dX6_sumOverSets_53 : decode cX6_sumOverSets 53 = .ok (.ldc2_w 49, 3) := by decide +kernel
theorem dX6_sumOverSets_56 : decode cX6_sumOverSets 56 = .ok (.lrem, 1) := by decide +kernel
theorem dX6_sumOverSets_57 : decode cX6_sumOverSets 57 = .ok (.goto 4, 3) := by decide +kernel
theorem dX6_sumOverSets_60 : decode cX6_sumOverSets 60 = .ok (.lconst 0, 1) := by decide +kernel
theorem dX6_sumOverSets_61 : decode cX6_sumOverSets 61 = .ok (.lstore 6, 2) := by decide +kernel
theorem dX6_sumOverSets_63 : decode cX6_sumOverSets 63 = .ok (.lload_n 2, 1) := by decide +kernel
theorem dX6_sumOverSets_64 : decode cX6_sumOverSets 64 = .ok (.iload 4, 2) := by decide +kernel
theorem dX6_sumOverSets_66 : decode cX6_sumOverSets 66 = .ok (.iconst 2, 1) := by decide +kernel
theorem dX6_sumOverSets_67 : decode cX6_sumOverSets 67 = .ok (.irem, 1) := by decide +kernel
theorem dX6_sumOverSets_68 : decode cX6_sumOverSets 68 = .ok (.iconst 1, 1) := by decide +kernel
theorem dX6_sumOverSets_69 : decode cX6_sumOverSets 69 = .ok (.if_icmp .ne 8, 3) := by decide +kernel
theorem dX6_sumOverSets_72 : decode cX6_sumOverSets 72 = .ok (.lload 6, 2) := by decide +kernel
theorem dX6_sumOverSets_74 : decode cX6_sumOverSets 74 = .ok (.goto 6, 3) := by decide +kernel
theorem dX6_sumOverSets_77 : decode cX6_sumOverSets 77 = .ok (.lload 6, 2) := by decide +kernel
theorem dX6_sumOverSets_79 : decode cX6_sumOverSets 79 = .ok (.lneg, 1) := by decide +kernel
theorem dX6_sumOverSets_80 : decode cX6_sumOverSets 80 = .ok (.ladd, 1) := by decide +kernel
theorem dX6_sumOverSets_81 : decode cX6_sumOverSets 81 = .ok (.lstore_n 2, 1) := by decide +kernel
theorem dX6_sumOverSets_82 : decode cX6_sumOverSets 82 = .ok (.iinc 4 1, 3) := by decide +kernel
theorem dX6_sumOverSets_85 : decode cX6_sumOverSets 85 = .ok (.goto (-80), 3) := by decide +kernel
theorem dX6_sumOverSets_88 : decode cX6_sumOverSets 88 = .ok (.lload_n 2, 1) := by decide +kernel
theorem dX6_sumOverSets_89 : decode cX6_sumOverSets 89 = .ok (.ldc2_w 49, 3) := by decide +kernel
theorem dX6_sumOverSets_92 : decode cX6_sumOverSets 92 = .ok (.invokestatic 51, 3) := by decide +kernel
theorem dX6_sumOverSets_95 : decode cX6_sumOverSets 95 = .ok (.lreturn, 1) := by decide +kernel
theorem dX6_letterOf_0 : decode cX6_letterOf 0 = .ok (.aload_n 0, 1) := by decide +kernel
theorem dX6_letterOf_1 : decode cX6_letterOf 1 = .ok (.iload_n 1, 1) := by decide +kernel
theorem dX6_letterOf_2 : decode cX6_letterOf 2 = .ok (.invokevirtual 57, 3) := by decide +kernel
theorem dX6_letterOf_5 : decode cX6_letterOf 5 = .ok (.iload_n 3, 1) := by decide +kernel
theorem dX6_letterOf_6 : decode cX6_letterOf 6 = .ok (.iload_n 1, 1) := by decide +kernel
theorem dX6_letterOf_7 : decode cX6_letterOf 7 = .ok (.if_icmp .ge 15, 3) := by decide +kernel
theorem dX6_letterOf_10 : decode cX6_letterOf 10 = .ok (.iload_n 2, 1) := by decide +kernel
theorem dX6_letterOf_11 : decode cX6_letterOf 11 = .ok (.i2l, 1) := by decide +kernel
theorem dX6_letterOf_12 : decode cX6_letterOf 12 = .ok (.aload_n 0, 1) := by decide +kernel
theorem dX6_letterOf_13 : decode cX6_letterOf 13 = .ok (.iload_n 1, 1) := by decide +kernel
theorem dX6_letterOf_14 : decode cX6_letterOf 14 = .ok (.iconst 0, 1) := by decide +kernel
theorem dX6_letterOf_15 : decode cX6_letterOf 15 = .ok (.invokevirtual 61, 3) := by decide +kernel
theorem dX6_letterOf_18 : decode cX6_letterOf 18 = .ok (.lcmp, 1) := by decide +kernel
theorem dX6_letterOf_19 : decode cX6_letterOf 19 = .ok (.ifCond .lt 5, 3) := by decide +kernel
theorem dX6_letterOf_22 : decode cX6_letterOf 22 = .ok (.iconst (-1), 1) := by decide +kernel
theorem dX6_letterOf_23 : decode cX6_letterOf 23 = .ok (.ireturn, 1) := by decide +kernel
theorem dX6_letterOf_24 : decode cX6_letterOf 24 = .ok (.aload_n 0, 1) := by decide +kernel
theorem dX6_letterOf_25 : decode cX6_letterOf 25 = .ok (.iconst 0, 1) := by decide +kernel
theorem dX6_letterOf_26 : decode cX6_letterOf 26 = .ok (.putfield 24, 3) := by decide +kernel
theorem dX6_letterOf_29 : decode cX6_letterOf 29 = .ok (.aload_n 0, 1) := by decide +kernel
theorem dX6_letterOf_30 : decode cX6_letterOf 30 = .ok (.iload_n 2, 1) := by decide +kernel
theorem dX6_letterOf_31 : decode cX6_letterOf 31 = .ok (.i2l, 1) := by decide +kernel
theorem dX6_letterOf_32 : decode cX6_letterOf 32 = .ok (.putfield 28, 3) := by decide +kernel
theorem dX6_letterOf_35 : decode cX6_letterOf 35 = .ok (.iconst (-1), 1) := by decide +kernel
theorem dX6_letterOf_36 : decode cX6_letterOf 36 = .ok (.istore 4, 2) := by decide +kernel
theorem dX6_letterOf_38 : decode cX6_letterOf 38 = .ok (.iconst 0, 1) := by decide +kernel
theorem dX6_letterOf_39 : decode cX6_letterOf 39 = .ok (.istore 5, 2) := by decide +kernel
theorem dX6_letterOf_41 : decode cX6_letterOf 41 = .ok (.iload 5, 2) := by decide +kernel
theorem dX6_letterOf_43 : decode cX6_letterOf 43 = .ok (.iload_n 3, 1) := by decide +kernel
theorem dX6_letterOf_44 : decode cX6_letterOf 44 = .ok (.if_icmp .gt 35, 3) := by decide +kernel
theorem dX6_letterOf_47 : decode cX6_letterOf 47 = .ok (.aload_n 0, 1) := by decide +kernel
theorem dX6_letterOf_48 : decode cX6_letterOf 48 = .ok (.iload_n 1, 1) := by decide +kernel
theorem dX6_letterOf_49 : decode cX6_letterOf 49 = .ok (.iload 5, 2) := by decide +kernel
theorem dX6_letterOf_51 : decode cX6_letterOf 51 = .ok (.isub, 1) := by decide +kernel
theorem dX6_letterOf_52 : decode cX6_letterOf 52 = .ok (.iconst 1, 1) := by decide +kernel
theorem dX6_letterOf_53 : decode cX6_letterOf 53 = .ok (.isub, 1) := by decide +kernel
theorem dX6_letterOf_54 : decode cX6_letterOf 54 = .ok (.invokevirtual 65, 3) := by decide +kernel
theorem dX6_letterOf_57 : decode cX6_letterOf 57 = .ok (.istore 4, 2) := by decide +kernel
theorem dX6_letterOf_59 : decode cX6_letterOf 59 = .ok (.aload_n 0, 1) := by decide +kernel
theorem dX6_letterOf_60 : decode cX6_letterOf 60 = .ok (.aload_n 0, 1) := by decide +kernel
theorem dX6_letterOf_61 : decode cX6_letterOf 61 = .ok (.aload_n 0, 1) := by decide +kernel
theorem dX6_letterOf_62 : decode cX6_letterOf 62 = .ok (.getfield 24, 3) := by decide +kernel
theorem dX6_letterOf_65 : decode cX6_letterOf 65 = .ok (.iload 4, 2) := by decide +kernel
theorem dX6_letterOf_67 : decode cX6_letterOf 67 = .ok (.invokevirtual 68, 3) := by decide +kernel
theorem dX6_letterOf_70 : decode cX6_letterOf 70 = .ok (.putfield 24, 3) := by decide +kernel
theorem dX6_letterOf_73 : decode cX6_letterOf 73 = .ok (.iinc 5 1, 3) := by decide +kernel
theorem dX6_letterOf_76 : decode cX6_letterOf 76 = .ok (.goto (-35), 3) := by decide +kernel
theorem dX6_letterOf_79 : decode cX6_letterOf 79 = .ok (.iload 4, 2) := by decide +kernel
theorem dX6_letterOf_81 : decode cX6_letterOf 81 = .ok (.ireturn, 1) := by decide +kernel
theorem dX6_pickLetter_0 : decode cX6_pickLetter 0 = .ok (.iconst 0, 1) := by decide +kernel
theorem dX6_pickLetter_1 : decode cX6_pickLetter 1 = .ok (.istore_n 2, 1) := by decide +kernel
theorem dX6_pickLetter_2 : decode cX6_pickLetter 2 = .ok (.iload_n 2, 1) := by decide +kernel
theorem dX6_pickLetter_3 : decode cX6_pickLetter 3 = .ok (.aload_n 0, 1) := by decide +kernel
theorem dX6_pickLetter_4 : decode cX6_pickLetter 4 = .ok (.getfield 32, 3) := by decide +kernel
theorem dX6_pickLetter_7 : decode cX6_pickLetter 7 = .ok (.invokevirtual 72, 3) := by decide +kernel
theorem dX6_pickLetter_10 : decode cX6_pickLetter 10 = .ok (.if_icmp .ge 37, 3) := by decide +kernel
theorem dX6_pickLetter_13 : decode cX6_pickLetter 13 = .ok (.aload_n 0, 1) := by decide +kernel
theorem dX6_pickLetter_14 : decode cX6_pickLetter 14 = .ok (.iload_n 1, 1) := by decide +kernel
theorem dX6_pickLetter_15 : decode cX6_pickLetter 15 = .ok (.iload_n 2, 1) := by decide +kernel
theorem dX6_pickLetter_16 : decode cX6_pickLetter 16 = .ok (.invokevirtual 76, 3) := by decide +kernel
theorem dX6_pickLetter_19 : decode cX6_pickLetter 19 = .ok (.lstore_n 3, 1) := by decide +kernel
theorem dX6_pickLetter_20 : decode cX6_pickLetter 20 = .ok (.aload_n 0, 1) := by decide +kernel
theorem dX6_pickLetter_21 : decode cX6_pickLetter 21 = .ok (.getfield 28, 3) := by decide +kernel
theorem dX6_pickLetter_24 : decode cX6_pickLetter 24 = .ok (.lload_n 3, 1) := by decide +kernel
theorem dX6_pickLetter_25 : decode cX6_pickLetter 25 = .ok (.lcmp, 1) := by decide +kernel
theorem dX6_pickLetter_26 : decode cX6_pickLetter 26 = .ok (.ifCond .ge 5, 3) := by decide +kernel
theorem dX6_pickLetter_29 : decode cX6_pickLetter 29 = .ok (.iload_n 2, 1) := by decide +kernel
theorem dX6_pickLetter_30 : decode cX6_pickLetter 30 = .ok (.ireturn, 1) := by decide +kernel
theorem dX6_pickLetter_31 : decode cX6_pickLetter 31 = .ok (.aload_n 0, 1) := by decide +kernel
theorem dX6_pickLetter_32 : decode cX6_pickLetter 32 = .ok (.dup, 1) := by decide +kernel
theorem dX6_pickLetter_33 : decode cX6_pickLetter 33 = .ok (.getfield 28, 3) := by decide +kernel
theorem dX6_pickLetter_36 : decode cX6_pickLetter 36 = .ok (.lload_n 3, 1) := by decide +kernel
theorem dX6_pickLetter_37 : decode cX6_pickLetter 37 = .ok (.lsub, 1) := by decide +kernel
theorem dX6_pickLetter_38 : decode cX6_pickLetter 38 = .ok (.putfield 28, 3) := by decide +kernel
theorem dX6_pickLetter_41 : decode cX6_pickLetter 41 = .ok (.iinc 2 1, 3) := by decide +kernel
theorem dX6_pickLetter_44 : decode cX6_pickLetter 44 = .ok (.goto (-42), 3) := by decide +kernel
theorem dX6_pickLetter_47 : decode cX6_pickLetter 47 = .ok (.iconst (-1), 1) := by decide +kernel
theorem dX6_pickLetter_48 : decode cX6_pickLetter 48 = .ok (.ireturn, 1) := by decide +kernel
theorem dX6_placeOfLeast_0 : decode cX6_placeOfLeast 0 = .ok (.aload_n 0, 1) := by decide +kernel
theorem dX6_placeOfLeast_1 : decode cX6_placeOfLeast 1 = .ok (.aload_n 1, 1) := by decide +kernel
theorem dX6_placeOfLeast_2 : decode cX6_placeOfLeast 2 = .ok (.invokevirtual 79, 3) := by decide +kernel
theorem dX6_placeOfLeast_5 : decode cX6_placeOfLeast 5 = .ok (.invokevirtual 57, 3) := by decide +kernel
theorem dX6_placeOfLeast_8 : decode cX6_placeOfLeast 8 = .ok (.aload_n 0, 1) := by decide +kernel
theorem dX6_placeOfLeast_9 : decode cX6_placeOfLeast 9 = .ok (.iconst 0, 1) := by decide +kernel
theorem dX6_placeOfLeast_10 : decode cX6_placeOfLeast 10 = .ok (.putfield 24, 3) := by decide +kernel
theorem dX6_placeOfLeast_13 : decode cX6_placeOfLeast 13 = .ok (.lconst 0, 1) := by decide +kernel
theorem dX6_placeOfLeast_14 : decode cX6_placeOfLeast 14 = .ok (.lstore_n 2, 1) := by decide +kernel
theorem dX6_placeOfLeast_15 : decode cX6_placeOfLeast 15 = .ok (.iconst 0, 1) := by decide +kernel
theorem dX6_placeOfLeast_16 : decode cX6_placeOfLeast 16 = .ok (.istore 4, 2) := by decide +kernel
theorem dX6_placeOfLeast_18 : decode cX6_placeOfLeast 18 = .ok (.iload 4, 2) := by decide +kernel
theorem dX6_placeOfLeast_20 : decode cX6_placeOfLeast 20 = .ok (.aload_n 1, 1) := by decide +kernel
theorem dX6_placeOfLeast_21 : decode cX6_placeOfLeast 21 = .ok (.invokevirtual 79, 3) := by decide +kernel
theorem dX6_placeOfLeast_24 : decode cX6_placeOfLeast 24 = .ok (.if_icmp .ge 65, 3) := by decide +kernel
theorem dX6_placeOfLeast_27 : decode cX6_placeOfLeast 27 = .ok (.iconst 0, 1) := by decide +kernel
theorem dX6_placeOfLeast_28 : decode cX6_placeOfLeast 28 = .ok (.istore 5, 2) := by decide +kernel
theorem dX6_placeOfLeast_30 : decode cX6_placeOfLeast 30 = .ok (.iload 5, 2) := by decide +kernel
theorem dX6_placeOfLeast_32 : decode cX6_placeOfLeast 32 = .ok (.aload_n 1, 1) := by decide +kernel
theorem dX6_placeOfLeast_33 : decode cX6_placeOfLeast 33 = .ok (.iload 4, 2) := by decide +kernel
theorem dX6_placeOfLeast_35 : decode cX6_placeOfLeast 35 = .ok (.invokevirtual 84, 3) := by decide +kernel
theorem dX6_placeOfLeast_38 : decode cX6_placeOfLeast 38 = .ok (.if_icmp .ge 27, 3) := by decide +kernel
theorem dX6_placeOfLeast_41 : decode cX6_placeOfLeast 41 = .ok (.lload_n 2, 1) := by decide +kernel
theorem dX6_placeOfLeast_42 : decode cX6_placeOfLeast 42 = .ok (.aload_n 0, 1) := by decide +kernel
theorem dX6_placeOfLeast_43 : decode cX6_placeOfLeast 43 = .ok (.aload_n 1, 1) := by decide +kernel
theorem dX6_placeOfLeast_44 : decode cX6_placeOfLeast 44 = .ok (.invokevirtual 79, 3) := by decide +kernel
theorem dX6_placeOfLeast_47 : decode cX6_placeOfLeast 47 = .ok (.iload 4, 2) := by decide +kernel
theorem dX6_placeOfLeast_49 : decode cX6_placeOfLeast 49 = .ok (.isub, 1) := by decide +kernel
theorem dX6_placeOfLeast_50 : decode cX6_placeOfLeast 50 = .ok (.iconst 1, 1) := by decide +kernel
theorem dX6_placeOfLeast_51 : decode cX6_placeOfLeast 51 = .ok (.isub, 1) := by decide +kernel
theorem dX6_placeOfLeast_52 : decode cX6_placeOfLeast 52 = .ok (.iload 5, 2) := by decide +kernel
theorem dX6_placeOfLeast_54 : decode cX6_placeOfLeast 54 = .ok (.invokevirtual 76, 3) := by decide +kernel
theorem dX6_placeOfLeast_57 : decode cX6_placeOfLeast 57 = .ok (.ladd, 1) := by decide +kernel
theorem dX6_placeOfLeast_58 : decode cX6_placeOfLeast 58 = .ok (.lstore_n 2, 1) := by decide +kernel
theorem dX6_placeOfLeast_59 : decode cX6_placeOfLeast 59 = .ok (.iinc 5 1, 3) := by decide +kernel
theorem dX6_placeOfLeast_62 : decode cX6_placeOfLeast 62 = .ok (.goto (-32), 3) := by decide +kernel
theorem dX6_placeOfLeast_65 : decode cX6_placeOfLeast 65 = .ok (.aload_n 0, 1) := by decide +kernel
theorem dX6_placeOfLeast_66 : decode cX6_placeOfLeast 66 = .ok (.aload_n 0, 1) := by decide +kernel
theorem dX6_placeOfLeast_67 : decode cX6_placeOfLeast 67 = .ok (.aload_n 0, 1) := by decide +kernel
theorem dX6_placeOfLeast_68 : decode cX6_placeOfLeast 68 = .ok (.getfield 24, 3) := by decide +kernel
theorem dX6_placeOfLeast_71 : decode cX6_placeOfLeast 71 = .ok (.aload_n 1, 1) := by decide +kernel
theorem dX6_placeOfLeast_72 : decode cX6_placeOfLeast 72 = .ok (.iload 4, 2) := by decide +kernel
theorem dX6_placeOfLeast_74 : decode cX6_placeOfLeast 74 = .ok (.invokevirtual 84, 3) := by decide +kernel
theorem dX6_placeOfLeast_77 : decode cX6_placeOfLeast 77 = .ok (.invokevirtual 68, 3) := by decide +kernel
theorem dX6_placeOfLeast_80 : decode cX6_placeOfLeast 80 = .ok (.putfield 24, 3) := by decide +kernel
theorem dX6_placeOfLeast_83 : decode cX6_placeOfLeast 83 = .ok (.iinc 4 1, 3) := by decide +kernel
theorem dX6_placeOfLeast_86 : decode cX6_placeOfLeast 86 = .ok (.goto (-68), 3) := by decide +kernel
theorem dX6_placeOfLeast_89 : decode cX6_placeOfLeast 89 = .ok (.lload_n 2, 1) := by decide +kernel
theorem dX6_placeOfLeast_90 : decode cX6_placeOfLeast 90 = .ok (.ldc2_w 49, 3) := by decide +kernel
theorem dX6_placeOfLeast_93 : decode cX6_placeOfLeast 93 = .ok (.lrem, 1) := by decide +kernel
theorem dX6_placeOfLeast_94 : decode cX6_placeOfLeast 94 = .ok (.l2i, 1) := by decide +kernel
theorem dX6_placeOfLeast_95 : decode cX6_placeOfLeast 95 = .ok (.ireturn, 1) := by decide +kernel
theorem dX6_howManyFollowLetter_0 : decode cX6_howManyFollowLetter 0 = .ok (.aload_n 0, 1) := by decide +kernel
theorem dX6_howManyFollowLetter_1 : decode cX6_howManyFollowLetter 1 = .ok (.getfield 24, 3) := by decide +kernel
theorem dX6_howManyFollowLetter_4 : decode cX6_howManyFollowLetter 4 = .ok (.iload_n 2, 1) := by decide +kernel
theorem dX6_howManyFollowLetter_5 : decode cX6_howManyFollowLetter 5 = .ok (.ishr, 1) := by decide +kernel
theorem dX6_howManyFollowLetter_6 : decode cX6_howManyFollowLetter 6 = .ok (.iconst 1, 1) := by decide +kernel
theorem dX6_howManyFollowLetter_7 : decode cX6_howManyFollowLetter 7 = .ok (.iand, 1) := by decide +kernel
theorem dX6_howManyFollowLetter_8 : decode cX6_howManyFollowLetter 8 = .ok (.iconst 1, 1) := by decide +kernel
theorem dX6_howManyFollowLetter_9 : decode cX6_howManyFollowLetter 9 = .ok (.if_icmp .ne 7, 3) := by decide +kernel
theorem dX6_howManyFollowLetter_12 : decode cX6_howManyFollowLetter 12 = .ok (.lconst 0, 1) := by decide +kernel
theorem dX6_howManyFollowLetter_13 : decode cX6_howManyFollowLetter 13 = .ok (.goto 17, 3) := by decide +kernel
theorem dX6_howManyFollowLetter_16 : decode cX6_howManyFollowLetter 16 = .ok (.aload_n 0, 1) := by decide +kernel
theorem dX6_howManyFollowLetter_17 : decode cX6_howManyFollowLetter 17 = .ok (.iload_n 1, 1) := by decide +kernel
theorem dX6_howManyFollowLetter_18 : decode cX6_howManyFollowLetter 18 = .ok (.aload_n 0, 1) := by decide +kernel
theorem dX6_howManyFollowLetter_19 : decode cX6_howManyFollowLetter 19 = .ok (.aload_n 0, 1) := by decide +kernel
theorem dX6_howManyFollowLetter_20 : decode cX6_howManyFollowLetter 20 = .ok (.getfield 24, 3) := by decide +kernel
theorem dX6_howManyFollowLetter_23 : decode cX6_howManyFollowLetter 23 = .ok (.iload_n 2, 1) := by decide +kernel
theorem dX6_howManyFollowLetter_24 : decode cX6_howManyFollowLetter 24 = .ok (.invokevirtual 68, 3) := by decide +kernel
theorem dX6_howManyFollowLetter_27 : decode cX6_howManyFollowLetter 27 = .ok (.invokevirtual 61, 3) := by decide +kernel
theorem dX6_howManyFollowLetter_30 : decode cX6_howManyFollowLetter 30 = .ok (.lreturn, 1) := by decide +kernel
theorem dX6_howManyFollow_0 : decode cX6_howManyFollow 0 = .ok (.iload_n 1, 1) := by decide +kernel
theorem dX6_howManyFollow_1 : decode cX6_howManyFollow 1 = .ok (.ifCond .lt 12, 3) := by decide +kernel
theorem dX6_howManyFollow_4 : decode cX6_howManyFollow 4 = .ok (.iload_n 1, 1) := by decide +kernel
theorem dX6_howManyFollow_5 : decode cX6_howManyFollow 5 = .ok (.aload_n 0, 1) := by decide +kernel
theorem dX6_howManyFollow_6 : decode cX6_howManyFollow 6 = .ok (.getfield 11, 3) := by decide +kernel
theorem dX6_howManyFollow_9 : decode cX6_howManyFollow 9 = .ok (.arraylength, 1) := by decide +kernel
theorem dX6_howManyFollow_10 : decode cX6_howManyFollow 10 = .ok (.if_icmp .lt 5, 3) := by decide +kernel
theorem dX6_howManyFollow_13 : decode cX6_howManyFollow 13 = .ok (.lconst 0, 1) := by decide +kernel
theorem dX6_howManyFollow_14 : decode cX6_howManyFollow 14 = .ok (.lreturn, 1) := by decide +kernel
theorem dX6_howManyFollow_15 : decode cX6_howManyFollow 15 = .ok (.aload_n 0, 1) := by decide +kernel
theorem dX6_howManyFollow_16 : decode cX6_howManyFollow 16 = .ok (.getfield 11, 3) := by decide +kernel
theorem dX6_howManyFollow_19 : decode cX6_howManyFollow 19 = .ok (.iload_n 1, 1) := by decide +kernel
theorem dX6_howManyFollow_20 : decode cX6_howManyFollow 20 = .ok (.aaload, 1) := by decide +kernel
theorem dX6_howManyFollow_21 : decode cX6_howManyFollow 21 = .ok (.astore_n 3, 1) := by decide +kernel
theorem dX6_howManyFollow_22 : decode cX6_howManyFollow 22 = .ok (.iload_n 2, 1) := by decide +kernel
theorem dX6_howManyFollow_23 : decode cX6_howManyFollow 23 = .ok (.ifCond .lt 15, 3) := by decide +kernel
theorem dX6_howManyFollow_26 : decode cX6_howManyFollow 26 = .ok (.iload_n 2, 1) := by decide +kernel
theorem dX6_howManyFollow_27 : decode cX6_howManyFollow 27 = .ok (.aload_n 3, 1) := by decide +kernel
theorem dX6_howManyFollow_28 : decode cX6_howManyFollow 28 = .ok (.arraylength, 1) := by decide +kernel
theorem dX6_howManyFollow_29 : decode cX6_howManyFollow 29 = .ok (.if_icmp .ge 9, 3) := by decide +kernel
theorem dX6_howManyFollow_32 : decode cX6_howManyFollow 32 = .ok (.aload_n 3, 1) := by decide +kernel
theorem dX6_howManyFollow_33 : decode cX6_howManyFollow 33 = .ok (.iload_n 2, 1) := by decide +kernel
theorem dX6_howManyFollow_34 : decode cX6_howManyFollow 34 = .ok (.laload, 1) := by decide +kernel
theorem dX6_howManyFollow_35 : decode cX6_howManyFollow 35 = .ok (.goto 4, 3) := by decide +kernel
theorem dX6_howManyFollow_38 : decode cX6_howManyFollow 38 = .ok (.lconst 0, 1) := by decide +kernel
theorem dX6_howManyFollow_39 : decode cX6_howManyFollow 39 = .ok (.lreturn, 1) := by decide +kernel
theorem dX6_countFollowing_0 : decode cX6_countFollowing 0 = .ok (.aload_n 0, 1) := by decide +kernel
theorem dX6_countFollowing_1 : decode cX6_countFollowing 1 = .ok (.getfield 32, 3) := by decide +kernel
theorem dX6_countFollowing_4 : decode cX6_countFollowing 4 = .ok (.invokevirtual 87, 3) := by decide +kernel
theorem dX6_countFollowing_7 : decode cX6_countFollowing 7 = .ok (.istore_n 2, 1) := by decide +kernel
theorem dX6_countFollowing_8 : decode cX6_countFollowing 8 = .ok (.aload_n 0, 1) := by decide +kernel
theorem dX6_countFollowing_9 : decode cX6_countFollowing 9 = .ok (.getfield 11, 3) := by decide +kernel
theorem dX6_countFollowing_12 : decode cX6_countFollowing 12 = .ok (.iconst 0, 1) := by decide +kernel
theorem dX6_countFollowing_13 : decode cX6_countFollowing 13 = .ok (.aaload, 1) := by decide +kernel
theorem dX6_countFollowing_14 : decode cX6_countFollowing 14 = .ok (.lconst 1, 1) := by decide +kernel
theorem dX6_countFollowing_15 : decode cX6_countFollowing 15 = .ok (.invokestatic 90, 3) := by decide +kernel
theorem dX6_countFollowing_18 : decode cX6_countFollowing 18 = .ok (.iconst 1, 1) := by decide +kernel
theorem dX6_countFollowing_19 : decode cX6_countFollowing 19 = .ok (.istore_n 3, 1) := by decide +kernel
theorem dX6_countFollowing_20 : decode cX6_countFollowing 20 = .ok (.iload_n 3, 1) := by decide +kernel
theorem dX6_countFollowing_21 : decode cX6_countFollowing 21 = .ok (.iload_n 1, 1) := by decide +kernel
theorem dX6_countFollowing_22 : decode cX6_countFollowing 22 = .ok (.if_icmp .gt 67, 3) := by decide +kernel
theorem dX6_countFollowing_25 : decode cX6_countFollowing 25 = .ok (.iload_n 3, 1) := by decide +kernel
theorem dX6_countFollowing_26 : decode cX6_countFollowing 26 = .ok (.aload_n 0, 1) := by decide +kernel
theorem dX6_countFollowing_27 : decode cX6_countFollowing 27 = .ok (.getfield 11, 3) := by decide +kernel
theorem dX6_countFollowing_30 : decode cX6_countFollowing 30 = .ok (.arraylength, 1) := by decide +kernel
theorem dX6_countFollowing_31 : decode cX6_countFollowing 31 = .ok (.if_icmp .ge 58, 3) := by decide +kernel
theorem dX6_countFollowing_34 : decode cX6_countFollowing 34 = .ok (.aload_n 0, 1) := by decide +kernel
theorem dX6_countFollowing_35 : decode cX6_countFollowing 35 = .ok (.getfield 11, 3) := by decide +kernel
theorem dX6_countFollowing_38 : decode cX6_countFollowing 38 = .ok (.iload_n 3, 1) := by decide +kernel
theorem dX6_countFollowing_39 : decode cX6_countFollowing 39 = .ok (.aaload, 1) := by decide +kernel
theorem dX6_countFollowing_40 : decode cX6_countFollowing 40 = .ok (.astore 4, 2) := by decide +kernel
theorem dX6_countFollowing_42 : decode cX6_countFollowing 42 = .ok (.iconst 0, 1) := by decide +kernel
theorem dX6_countFollowing_43 : decode cX6_countFollowing 43 = .ok (.istore 5, 2) := by decide +kernel
theorem dX6_countFollowing_45 : decode cX6_countFollowing 45 = .ok (.iload 5, 2) := by decide +kernel
theorem dX6_countFollowing_47 : decode cX6_countFollowing 47 = .ok (.iload_n 2, 1) := by decide +kernel
theorem dX6_countFollowing_48 : decode cX6_countFollowing 48 = .ok (.if_icmp .gt 35, 3) := by decide +kernel
theorem dX6_countFollowing_51 : decode cX6_countFollowing 51 = .ok (.iload 5, 2) := by decide +kernel
theorem dX6_countFollowing_53 : decode cX6_countFollowing 53 = .ok (.aload 4, 2) := by decide +kernel
theorem dX6_countFollowing_55 : decode cX6_countFollowing 55 = .ok (.arraylength, 1) := by decide +kernel
theorem dX6_countFollowing_56 : decode cX6_countFollowing 56 = .ok (.if_icmp .ge 27, 3) := by decide +kernel
theorem dX6_countFollowing_59 : decode cX6_countFollowing 59 = .ok (.aload_n 0, 1) := by decide +kernel
theorem dX6_countFollowing_60 : decode cX6_countFollowing 60 = .ok (.iload 5, 2) := by decide +kernel
theorem dX6_countFollowing_62 : decode cX6_countFollowing 62 = .ok (.putfield 24, 3) := by decide +kernel
theorem dX6_countFollowing_65 : decode cX6_countFollowing 65 = .ok (.aload 4, 2) := by decide +kernel
theorem dX6_countFollowing_67 : decode cX6_countFollowing 67 = .ok (.iload 5, 2) := by decide +kernel
theorem dX6_countFollowing_69 : decode cX6_countFollowing 69 = .ok (.aload_n 0, 1) := by decide +kernel
theorem dX6_countFollowing_70 : decode cX6_countFollowing 70 = .ok (.iload_n 3, 1) := by decide +kernel
theorem dX6_countFollowing_71 : decode cX6_countFollowing 71 = .ok (.iconst 1, 1) := by decide +kernel
theorem dX6_countFollowing_72 : decode cX6_countFollowing 72 = .ok (.isub, 1) := by decide +kernel
theorem dX6_countFollowing_73 : decode cX6_countFollowing 73 = .ok (.invokevirtual 96, 3) := by decide +kernel
theorem dX6_countFollowing_76 : decode cX6_countFollowing 76 = .ok (.lastore, 1) := by decide +kernel
theorem dX6_countFollowing_77 : decode cX6_countFollowing 77 = .ok (.iinc 5 1, 3) := by decide +kernel
theorem dX6_countFollowing_80 : decode cX6_countFollowing 80 = .ok (.goto (-35), 3) := by decide +kernel
theorem dX6_countFollowing_83 : decode cX6_countFollowing 83 = .ok (.iinc 3 1, 3) := by decide +kernel
theorem dX6_countFollowing_86 : decode cX6_countFollowing 86 = .ok (.goto (-66), 3) := by decide +kernel
theorem dX6_countFollowing_89 : decode cX6_countFollowing 89 = .ok (.return_, 1) := by decide +kernel
theorem dX6_sumFollowing_0 : decode cX6_sumFollowing 0 = .ok (.lconst 0, 1) := by decide +kernel
theorem dX6_sumFollowing_1 : decode cX6_sumFollowing 1 = .ok (.lstore_n 2, 1) := by decide +kernel
theorem dX6_sumFollowing_2 : decode cX6_sumFollowing 2 = .ok (.iconst 0, 1) := by decide +kernel
theorem dX6_sumFollowing_3 : decode cX6_sumFollowing 3 = .ok (.istore 4, 2) := by decide +kernel
theorem dX6_sumFollowing_5 : decode cX6_sumFollowing 5 = .ok (.iload 4, 2) := by decide +kernel
theorem dX6_sumFollowing_7 : decode cX6_sumFollowing 7 = .ok (.aload_n 0, 1) := by decide +kernel
theorem dX6_sumFollowing_8 : decode cX6_sumFollowing 8 = .ok (.getfield 32, 3) := by decide +kernel
theorem dX6_sumFollowing_11 : decode cX6_sumFollowing 11 = .ok (.invokevirtual 72, 3) := by decide +kernel
theorem dX6_sumFollowing_14 : decode cX6_sumFollowing 14 = .ok (.if_icmp .ge 19, 3) := by decide +kernel
theorem dX6_sumFollowing_17 : decode cX6_sumFollowing 17 = .ok (.lload_n 2, 1) := by decide +kernel
theorem dX6_sumFollowing_18 : decode cX6_sumFollowing 18 = .ok (.aload_n 0, 1) := by decide +kernel
theorem dX6_sumFollowing_19 : decode cX6_sumFollowing 19 = .ok (.iload_n 1, 1) := by decide +kernel
theorem dX6_sumFollowing_20 : decode cX6_sumFollowing 20 = .ok (.iload 4, 2) := by decide +kernel
