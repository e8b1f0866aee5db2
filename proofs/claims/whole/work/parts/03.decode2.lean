theorem dX6_sumFollowing_22 : decode cX6_sumFollowing 22 = .ok (.invokevirtual 76, 3) := by decide +kernel
theorem dX6_sumFollowing_25 : decode cX6_sumFollowing 25 = .ok (.ladd, 1) := by decide +kernel
theorem dX6_sumFollowing_26 : decode cX6_sumFollowing 26 = .ok (.lstore_n 2, 1) := by decide +kernel
theorem dX6_sumFollowing_27 : decode cX6_sumFollowing 27 = .ok (.iinc 4 1, 3) := by decide +kernel
theorem dX6_sumFollowing_30 : decode cX6_sumFollowing 30 = .ok (.goto (-25), 3) := by decide +kernel
theorem dX6_sumFollowing_33 : decode cX6_sumFollowing 33 = .ok (.lload_n 2, 1) := by decide +kernel
theorem dX6_sumFollowing_34 : decode cX6_sumFollowing 34 = .ok (.lreturn, 1) := by decide +kernel
theorem dX7_init_0 : decode cX7_init 0 = .ok (.aload_n 0, 1) := by decide +kernel
theorem dX7_init_1 : decode cX7_init 1 = .ok (.invokespecial 3, 3) := by decide +kernel
theorem dX7_init_4 : decode cX7_init 4 = .ok (.aload_n 0, 1) := by decide +kernel
theorem dX7_init_5 : decode cX7_init 5 = .ok (.new 9, 3) := by decide +kernel
theorem dX7_init_8 : decode cX7_init 8 = .ok (.dup, 1) := by decide +kernel
theorem dX7_init_9 : decode cX7_init 9 = .ok (.invokespecial 11, 3) := by decide +kernel
theorem dX7_init_12 : decode cX7_init 12 = .ok (.putfield 12, 3) := by decide +kernel
theorem dX7_init_15 : decode cX7_init 15 = .ok (.aload_n 0, 1) := by decide +kernel
theorem dX7_init_16 : decode cX7_init 16 = .ok (.new 9, 3) := by decide +kernel
theorem dX7_init_19 : decode cX7_init 19 = .ok (.dup, 1) := by decide +kernel
theorem dX7_init_20 : decode cX7_init 20 = .ok (.invokespecial 11, 3) := by decide +kernel
theorem dX7_init_23 : decode cX7_init 23 = .ok (.putfield 18, 3) := by decide +kernel
theorem dX7_init_26 : decode cX7_init 26 = .ok (.aload_n 0, 1) := by decide +kernel
theorem dX7_init_27 : decode cX7_init 27 = .ok (.new 9, 3) := by decide +kernel
theorem dX7_init_30 : decode cX7_init 30 = .ok (.dup, 1) := by decide +kernel
theorem dX7_init_31 : decode cX7_init 31 = .ok (.invokespecial 11, 3) := by decide +kernel
theorem dX7_init_34 : decode cX7_init 34 = .ok (.putfield 21, 3) := by decide +kernel
theorem dX7_init_37 : decode cX7_init 37 = .ok (.aload_n 0, 1) := by decide +kernel
theorem dX7_init_38 : decode cX7_init 38 = .ok (.aload_n 1, 1) := by decide +kernel
theorem dX7_init_39 : decode cX7_init 39 = .ok (.putfield 24, 3) := by decide +kernel
theorem dX7_init_42 : decode cX7_init 42 = .ok (.return_, 1) := by decide +kernel
theorem dX7_makeJoined_0 : decode cX7_makeJoined 0 = .ok (.aload_n 0, 1) := by decide +kernel
theorem dX7_makeJoined_1 : decode cX7_makeJoined 1 = .ok (.getfield 12, 3) := by decide +kernel
theorem dX7_makeJoined_4 : decode cX7_makeJoined 4 = .ok (.aload_n 1, 1) := by decide +kernel
theorem dX7_makeJoined_5 : decode cX7_makeJoined 5 = .ok (.invokevirtual 28, 3) := by decide +kernel
theorem dX7_makeJoined_8 : decode cX7_makeJoined 8 = .ok (.aload_n 0, 1) := by decide +kernel
theorem dX7_makeJoined_9 : decode cX7_makeJoined 9 = .ok (.getfield 12, 3) := by decide +kernel
theorem dX7_makeJoined_12 : decode cX7_makeJoined 12 = .ok (.aload_n 2, 1) := by decide +kernel
theorem dX7_makeJoined_13 : decode cX7_makeJoined 13 = .ok (.invokevirtual 32, 3) := by decide +kernel
theorem dX7_makeJoined_16 : decode cX7_makeJoined 16 = .ok (.ifCond .eq 15, 3) := by decide +kernel
theorem dX7_makeJoined_19 : decode cX7_makeJoined 19 = .ok (.aload_n 0, 1) := by decide +kernel
theorem dX7_makeJoined_20 : decode cX7_makeJoined 20 = .ok (.aload_n 0, 1) := by decide +kernel
theorem dX7_makeJoined_21 : decode cX7_makeJoined 21 = .ok (.getfield 12, 3) := by decide +kernel
theorem dX7_makeJoined_24 : decode cX7_makeJoined 24 = .ok (.aload_n 3, 1) := by decide +kernel
theorem dX7_makeJoined_25 : decode cX7_makeJoined 25 = .ok (.invokevirtual 36, 3) := by decide +kernel
theorem dX7_makeJoined_28 : decode cX7_makeJoined 28 = .ok (.goto 5, 3) := by decide +kernel
theorem dX7_makeJoined_31 : decode cX7_makeJoined 31 = .ok (.bipush (-5), 2) := by decide +kernel
theorem dX7_makeJoined_33 : decode cX7_makeJoined 33 = .ok (.ireturn, 1) := by decide +kernel
theorem dX7_makeLeft_0 : decode cX7_makeLeft 0 = .ok (.aload_n 0, 1) := by decide +kernel
theorem dX7_makeLeft_1 : decode cX7_makeLeft 1 = .ok (.getfield 21, 3) := by decide +kernel
theorem dX7_makeLeft_4 : decode cX7_makeLeft 4 = .ok (.aload_n 2, 1) := by decide +kernel
theorem dX7_makeLeft_5 : decode cX7_makeLeft 5 = .ok (.invokevirtual 28, 3) := by decide +kernel
theorem dX7_makeLeft_8 : decode cX7_makeLeft 8 = .ok (.iconst 0, 1) := by decide +kernel
theorem dX7_makeLeft_9 : decode cX7_makeLeft 9 = .ok (.istore 4, 2) := by decide +kernel
theorem dX7_makeLeft_11 : decode cX7_makeLeft 11 = .ok (.iload 4, 2) := by decide +kernel
theorem dX7_makeLeft_13 : decode cX7_makeLeft 13 = .ok (.aload_n 1, 1) := by decide +kernel
theorem dX7_makeLeft_14 : decode cX7_makeLeft 14 = .ok (.invokevirtual 40, 3) := by decide +kernel
theorem dX7_makeLeft_17 : decode cX7_makeLeft 17 = .ok (.if_icmp .ge 32, 3) := by decide +kernel
theorem dX7_makeLeft_20 : decode cX7_makeLeft 20 = .ok (.aload_n 0, 1) := by decide +kernel
theorem dX7_makeLeft_21 : decode cX7_makeLeft 21 = .ok (.getfield 24, 3) := by decide +kernel
theorem dX7_makeLeft_24 : decode cX7_makeLeft 24 = .ok (.aload_n 0, 1) := by decide +kernel
theorem dX7_makeLeft_25 : decode cX7_makeLeft 25 = .ok (.getfield 21, 3) := by decide +kernel
theorem dX7_makeLeft_28 : decode cX7_makeLeft 28 = .ok (.aload_n 1, 1) := by decide +kernel
theorem dX7_makeLeft_29 : decode cX7_makeLeft 29 = .ok (.iload 4, 2) := by decide +kernel
theorem dX7_makeLeft_31 : decode cX7_makeLeft 31 = .ok (.invokevirtual 44, 3) := by decide +kernel
theorem dX7_makeLeft_34 : decode cX7_makeLeft 34 = .ok (.invokevirtual 48, 3) := by decide +kernel
theorem dX7_makeLeft_37 : decode cX7_makeLeft 37 = .ok (.ifCond .ne 6, 3) := by decide +kernel
theorem dX7_makeLeft_40 : decode cX7_makeLeft 40 = .ok (.bipush (-4), 2) := by decide +kernel
theorem dX7_makeLeft_42 : decode cX7_makeLeft 42 = .ok (.ireturn, 1) := by decide +kernel
theorem dX7_makeLeft_43 : decode cX7_makeLeft 43 = .ok (.iinc 4 1, 3) := by decide +kernel
theorem dX7_makeLeft_46 : decode cX7_makeLeft 46 = .ok (.goto (-35), 3) := by decide +kernel
theorem dX7_makeLeft_49 : decode cX7_makeLeft 49 = .ok (.aload_n 0, 1) := by decide +kernel
theorem dX7_makeLeft_50 : decode cX7_makeLeft 50 = .ok (.aload_n 0, 1) := by decide +kernel
theorem dX7_makeLeft_51 : decode cX7_makeLeft 51 = .ok (.getfield 21, 3) := by decide +kernel
theorem dX7_makeLeft_54 : decode cX7_makeLeft 54 = .ok (.aload_n 3, 1) := by decide +kernel
theorem dX7_makeLeft_55 : decode cX7_makeLeft 55 = .ok (.invokevirtual 36, 3) := by decide +kernel
theorem dX7_makeLeft_58 : decode cX7_makeLeft 58 = .ok (.ireturn, 1) := by decide +kernel
theorem dX7_makeShared_0 : decode cX7_makeShared 0 = .ok (.aload_n 0, 1) := by decide +kernel
theorem dX7_makeShared_1 : decode cX7_makeShared 1 = .ok (.aload_n 1, 1) := by decide +kernel
theorem dX7_makeShared_2 : decode cX7_makeShared 2 = .ok (.aload_n 2, 1) := by decide +kernel
theorem dX7_makeShared_3 : decode cX7_makeShared 3 = .ok (.invokevirtual 54, 3) := by decide +kernel
theorem dX7_makeShared_6 : decode cX7_makeShared 6 = .ok (.aload_n 0, 1) := by decide +kernel
theorem dX7_makeShared_7 : decode cX7_makeShared 7 = .ok (.aload_n 0, 1) := by decide +kernel
theorem dX7_makeShared_8 : decode cX7_makeShared 8 = .ok (.getfield 12, 3) := by decide +kernel
theorem dX7_makeShared_11 : decode cX7_makeShared 11 = .ok (.aload_n 3, 1) := by decide +kernel
theorem dX7_makeShared_12 : decode cX7_makeShared 12 = .ok (.invokevirtual 36, 3) := by decide +kernel
theorem dX7_makeShared_15 : decode cX7_makeShared 15 = .ok (.ireturn, 1) := by decide +kernel
theorem dX7_makeBoth_0 : decode cX7_makeBoth 0 = .ok (.aload_n 0, 1) := by decide +kernel
theorem dX7_makeBoth_1 : decode cX7_makeBoth 1 = .ok (.aload_n 1, 1) := by decide +kernel
theorem dX7_makeBoth_2 : decode cX7_makeBoth 2 = .ok (.aload_n 2, 1) := by decide +kernel
theorem dX7_makeBoth_3 : decode cX7_makeBoth 3 = .ok (.invokevirtual 54, 3) := by decide +kernel
theorem dX7_makeBoth_6 : decode cX7_makeBoth 6 = .ok (.aload_n 0, 1) := by decide +kernel
theorem dX7_makeBoth_7 : decode cX7_makeBoth 7 = .ok (.aload_n 0, 1) := by decide +kernel
theorem dX7_makeBoth_8 : decode cX7_makeBoth 8 = .ok (.getfield 18, 3) := by decide +kernel
theorem dX7_makeBoth_11 : decode cX7_makeBoth 11 = .ok (.aload_n 0, 1) := by decide +kernel
theorem dX7_makeBoth_12 : decode cX7_makeBoth 12 = .ok (.getfield 21, 3) := by decide +kernel
theorem dX7_makeBoth_15 : decode cX7_makeBoth 15 = .ok (.invokevirtual 58, 3) := by decide +kernel
theorem dX7_makeBoth_18 : decode cX7_makeBoth 18 = .ok (.ifCond .ne 6, 3) := by decide +kernel
theorem dX7_makeBoth_21 : decode cX7_makeBoth 21 = .ok (.bipush (-4), 2) := by decide +kernel
theorem dX7_makeBoth_23 : decode cX7_makeBoth 23 = .ok (.ireturn, 1) := by decide +kernel
theorem dX7_makeBoth_24 : decode cX7_makeBoth 24 = .ok (.aload_n 0, 1) := by decide +kernel
theorem dX7_makeBoth_25 : decode cX7_makeBoth 25 = .ok (.getfield 12, 3) := by decide +kernel
theorem dX7_makeBoth_28 : decode cX7_makeBoth 28 = .ok (.aload_n 0, 1) := by decide +kernel
theorem dX7_makeBoth_29 : decode cX7_makeBoth 29 = .ok (.getfield 18, 3) := by decide +kernel
theorem dX7_makeBoth_32 : decode cX7_makeBoth 32 = .ok (.invokevirtual 32, 3) := by decide +kernel
theorem dX7_makeBoth_35 : decode cX7_makeBoth 35 = .ok (.ifCond .eq 29, 3) := by decide +kernel
theorem dX7_makeBoth_38 : decode cX7_makeBoth 38 = .ok (.aload_n 0, 1) := by decide +kernel
theorem dX7_makeBoth_39 : decode cX7_makeBoth 39 = .ok (.getfield 12, 3) := by decide +kernel
theorem dX7_makeBoth_42 : decode cX7_makeBoth 42 = .ok (.aload_n 0, 1) := by decide +kernel
theorem dX7_makeBoth_43 : decode cX7_makeBoth 43 = .ok (.getfield 21, 3) := by decide +kernel
theorem dX7_makeBoth_46 : decode cX7_makeBoth 46 = .ok (.invokevirtual 32, 3) := by decide +kernel
theorem dX7_makeBoth_49 : decode cX7_makeBoth 49 = .ok (.ifCond .eq 15, 3) := by decide +kernel
theorem dX7_makeBoth_52 : decode cX7_makeBoth 52 = .ok (.aload_n 0, 1) := by decide +kernel
theorem dX7_makeBoth_53 : decode cX7_makeBoth 53 = .ok (.aload_n 0, 1) := by decide +kernel
theorem dX7_makeBoth_54 : decode cX7_makeBoth 54 = .ok (.getfield 12, 3) := by decide +kernel
theorem dX7_makeBoth_57 : decode cX7_makeBoth 57 = .ok (.aload_n 3, 1) := by decide +kernel
theorem dX7_makeBoth_58 : decode cX7_makeBoth 58 = .ok (.invokevirtual 36, 3) := by decide +kernel
theorem dX7_makeBoth_61 : decode cX7_makeBoth 61 = .ok (.goto 5, 3) := by decide +kernel
theorem dX7_makeBoth_64 : decode cX7_makeBoth 64 = .ok (.bipush (-5), 2) := by decide +kernel
theorem dX7_makeBoth_66 : decode cX7_makeBoth 66 = .ok (.ireturn, 1) := by decide +kernel
theorem dX7_makeHeap_0 : decode cX7_makeHeap 0 = .ok (.aload_n 0, 1) := by decide +kernel
theorem dX7_makeHeap_1 : decode cX7_makeHeap 1 = .ok (.getfield 24, 3) := by decide +kernel
theorem dX7_makeHeap_4 : decode cX7_makeHeap 4 = .ok (.aload_n 1, 1) := by decide +kernel
theorem dX7_makeHeap_5 : decode cX7_makeHeap 5 = .ok (.aload_n 2, 1) := by decide +kernel
theorem dX7_makeHeap_6 : decode cX7_makeHeap 6 = .ok (.invokevirtual 62, 3) := by decide +kernel
theorem dX7_makeHeap_9 : decode cX7_makeHeap 9 = .ok (.aload_n 2, 1) := by decide +kernel
theorem dX7_makeHeap_10 : decode cX7_makeHeap 10 = .ok (.invokevirtual 40, 3) := by decide +kernel
theorem dX7_makeHeap_13 : decode cX7_makeHeap 13 = .ok (.ireturn, 1) := by decide +kernel
theorem dX7_splitCommon_0 : decode cX7_splitCommon 0 = .ok (.aload_n 0, 1) := by decide +kernel
theorem dX7_splitCommon_1 : decode cX7_splitCommon 1 = .ok (.getfield 12, 3) := by decide +kernel
theorem dX7_splitCommon_4 : decode cX7_splitCommon 4 = .ok (.invokevirtual 65, 3) := by decide +kernel
theorem dX7_splitCommon_7 : decode cX7_splitCommon 7 = .ok (.aload_n 0, 1) := by decide +kernel
theorem dX7_splitCommon_8 : decode cX7_splitCommon 8 = .ok (.getfield 18, 3) := by decide +kernel
theorem dX7_splitCommon_11 : decode cX7_splitCommon 11 = .ok (.aload_n 1, 1) := by decide +kernel
theorem dX7_splitCommon_12 : decode cX7_splitCommon 12 = .ok (.invokevirtual 28, 3) := by decide +kernel
theorem dX7_splitCommon_15 : decode cX7_splitCommon 15 = .ok (.aload_n 0, 1) := by decide +kernel
theorem dX7_splitCommon_16 : decode cX7_splitCommon 16 = .ok (.getfield 21, 3) := by decide +kernel
theorem dX7_splitCommon_19 : decode cX7_splitCommon 19 = .ok (.aload_n 2, 1) := by decide +kernel
theorem dX7_splitCommon_20 : decode cX7_splitCommon 20 = .ok (.invokevirtual 28, 3) := by decide +kernel
theorem dX7_splitCommon_23 : decode cX7_splitCommon 23 = .ok (.iconst 0, 1) := by decide +kernel
theorem dX7_splitCommon_24 : decode cX7_splitCommon 24 = .ok (.istore_n 3, 1) := by decide +kernel
theorem dX7_splitCommon_25 : decode cX7_splitCommon 25 = .ok (.iload_n 3, 1) := by decide +kernel
theorem dX7_splitCommon_26 : decode cX7_splitCommon 26 = .ok (.bipush 24, 2) := by decide +kernel
theorem dX7_splitCommon_28 : decode cX7_splitCommon 28 = .ok (.if_icmp .ge 60, 3) := by decide +kernel
theorem dX7_splitCommon_31 : decode cX7_splitCommon 31 = .ok (.aload_n 0, 1) := by decide +kernel
theorem dX7_splitCommon_32 : decode cX7_splitCommon 32 = .ok (.invokevirtual 68, 3) := by decide +kernel
theorem dX7_splitCommon_35 : decode cX7_splitCommon 35 = .ok (.istore 4, 2) := by decide +kernel
theorem dX7_splitCommon_37 : decode cX7_splitCommon 37 = .ok (.iload 4, 2) := by decide +kernel
theorem dX7_splitCommon_39 : decode cX7_splitCommon 39 = .ok (.iconst (-1), 1) := by decide +kernel
theorem dX7_splitCommon_40 : decode cX7_splitCommon 40 = .ok (.if_icmp .ne 4, 3) := by decide +kernel
theorem dX7_splitCommon_43 : decode cX7_splitCommon 43 = .ok (.return_, 1) := by decide +kernel
theorem dX7_splitCommon_44 : decode cX7_splitCommon 44 = .ok (.aload_n 0, 1) := by decide +kernel
theorem dX7_splitCommon_45 : decode cX7_splitCommon 45 = .ok (.getfield 24, 3) := by decide +kernel
theorem dX7_splitCommon_48 : decode cX7_splitCommon 48 = .ok (.aload_n 0, 1) := by decide +kernel
theorem dX7_splitCommon_49 : decode cX7_splitCommon 49 = .ok (.getfield 18, 3) := by decide +kernel
theorem dX7_splitCommon_52 : decode cX7_splitCommon 52 = .ok (.iload 4, 2) := by decide +kernel
theorem dX7_splitCommon_54 : decode cX7_splitCommon 54 = .ok (.invokevirtual 48, 3) := by decide +kernel
theorem dX7_splitCommon_57 : decode cX7_splitCommon 57 = .ok (.pop, 1) := by decide +kernel
theorem dX7_splitCommon_58 : decode cX7_splitCommon 58 = .ok (.aload_n 0, 1) := by decide +kernel
theorem dX7_splitCommon_59 : decode cX7_splitCommon 59 = .ok (.getfield 24, 3) := by decide +kernel
theorem dX7_splitCommon_62 : decode cX7_splitCommon 62 = .ok (.aload_n 0, 1) := by decide +kernel
theorem dX7_splitCommon_63 : decode cX7_splitCommon 63 = .ok (.getfield 21, 3) := by decide +kernel
theorem dX7_splitCommon_66 : decode cX7_splitCommon 66 = .ok (.iload 4, 2) := by decide +kernel
theorem dX7_splitCommon_68 : decode cX7_splitCommon 68 = .ok (.invokevirtual 48, 3) := by decide +kernel
theorem dX7_splitCommon_71 : decode cX7_splitCommon 71 = .ok (.pop, 1) := by decide +kernel
theorem dX7_splitCommon_72 : decode cX7_splitCommon 72 = .ok (.aload_n 0, 1) := by decide +kernel
theorem dX7_splitCommon_73 : decode cX7_splitCommon 73 = .ok (.getfield 12, 3) := by decide +kernel
theorem dX7_splitCommon_76 : decode cX7_splitCommon 76 = .ok (.iload 4, 2) := by decide +kernel
theorem dX7_splitCommon_78 : decode cX7_splitCommon 78 = .ok (.invokevirtual 71, 3) := by decide +kernel
theorem dX7_splitCommon_81 : decode cX7_splitCommon 81 = .ok (.pop, 1) := by decide +kernel
theorem dX7_splitCommon_82 : decode cX7_splitCommon 82 = .ok (.iinc 3 1, 3) := by decide +kernel
theorem dX7_splitCommon_85 : decode cX7_splitCommon 85 = .ok (.goto (-60), 3) := by decide +kernel
theorem dX7_splitCommon_88 : decode cX7_splitCommon 88 = .ok (.return_, 1) := by decide +kernel
theorem dX7_commonFront_0 : decode cX7_commonFront 0 = .ok (.iconst 0, 1) := by decide +kernel
theorem dX7_commonFront_1 : decode cX7_commonFront 1 = .ok (.istore_n 1, 1) := by decide +kernel
theorem dX7_commonFront_2 : decode cX7_commonFront 2 = .ok (.iload_n 1, 1) := by decide +kernel
theorem dX7_commonFront_3 : decode cX7_commonFront 3 = .ok (.aload_n 0, 1) := by decide +kernel
theorem dX7_commonFront_4 : decode cX7_commonFront 4 = .ok (.getfield 24, 3) := by decide +kernel
theorem dX7_commonFront_7 : decode cX7_commonFront 7 = .ok (.invokevirtual 75, 3) := by decide +kernel
theorem dX7_commonFront_10 : decode cX7_commonFront 10 = .ok (.invokevirtual 79, 3) := by decide +kernel
theorem dX7_commonFront_13 : decode cX7_commonFront 13 = .ok (.if_icmp .ge 41, 3) := by decide +kernel
theorem dX7_commonFront_16 : decode cX7_commonFront 16 = .ok (.aload_n 0, 1) := by decide +kernel
theorem dX7_commonFront_17 : decode cX7_commonFront 17 = .ok (.getfield 24, 3) := by decide +kernel
theorem dX7_commonFront_20 : decode cX7_commonFront 20 = .ok (.aload_n 0, 1) := by decide +kernel
theorem dX7_commonFront_21 : decode cX7_commonFront 21 = .ok (.getfield 18, 3) := by decide +kernel
theorem dX7_commonFront_24 : decode cX7_commonFront 24 = .ok (.iload_n 1, 1) := by decide +kernel
theorem dX7_commonFront_25 : decode cX7_commonFront 25 = .ok (.invokevirtual 84, 3) := by decide +kernel
theorem dX7_commonFront_28 : decode cX7_commonFront 28 = .ok (.ifCond .eq 20, 3) := by decide +kernel
theorem dX7_commonFront_31 : decode cX7_commonFront 31 = .ok (.aload_n 0, 1) := by decide +kernel
theorem dX7_commonFront_32 : decode cX7_commonFront 32 = .ok (.getfield 24, 3) := by decide +kernel
theorem dX7_commonFront_35 : decode cX7_commonFront 35 = .ok (.aload_n 0, 1) := by decide +kernel
theorem dX7_commonFront_36 : decode cX7_commonFront 36 = .ok (.getfield 21, 3) := by decide +kernel
theorem dX7_commonFront_39 : decode cX7_commonFront 39 = .ok (.iload_n 1, 1) := by decide +kernel
theorem dX7_commonFront_40 : decode cX7_commonFront 40 = .ok (.invokevirtual 84, 3) := by decide +kernel
theorem dX7_commonFront_43 : decode cX7_commonFront 43 = .ok (.ifCond .eq 5, 3) := by decide +kernel
theorem dX7_commonFront_46 : decode cX7_commonFront 46 = .ok (.iload_n 1, 1) := by decide +kernel
theorem dX7_commonFront_47 : decode cX7_commonFront 47 = .ok (.ireturn, 1) := by decide +kernel
theorem dX7_commonFront_48 : decode cX7_commonFront 48 = .ok (.iinc 1 1, 3) := by decide +kernel
theorem dX7_commonFront_51 : decode cX7_commonFront 51 = .ok (.goto (-49), 3) := by decide +kernel
theorem dX7_commonFront_54 : decode cX7_commonFront 54 = .ok (.iconst (-1), 1) := by decide +kernel
theorem dX7_commonFront_55 : decode cX7_commonFront 55 = .ok (.ireturn, 1) := by decide +kernel
theorem dX7_isAllFree_0 : decode cX7_isAllFree 0 = .ok (.aload_n 2, 1) := by decide +kernel
theorem dX7_isAllFree_1 : decode cX7_isAllFree 1 = .ok (.invokevirtual 87, 3) := by decide +kernel
theorem dX7_isAllFree_4 : decode cX7_isAllFree 4 = .ok (.istore_n 3, 1) := by decide +kernel
theorem dX7_isAllFree_5 : decode cX7_isAllFree 5 = .ok (.iconst 0, 1) := by decide +kernel
theorem dX7_isAllFree_6 : decode cX7_isAllFree 6 = .ok (.istore 4, 2) := by decide +kernel
theorem dX7_isAllFree_8 : decode cX7_isAllFree 8 = .ok (.iload 4, 2) := by decide +kernel
theorem dX7_isAllFree_10 : decode cX7_isAllFree 10 = .ok (.aload_n 1, 1) := by decide +kernel
theorem dX7_isAllFree_11 : decode cX7_isAllFree 11 = .ok (.invokevirtual 40, 3) := by decide +kernel
theorem dX7_isAllFree_14 : decode cX7_isAllFree 14 = .ok (.if_icmp .ge 32, 3) := by decide +kernel
theorem dX7_isAllFree_17 : decode cX7_isAllFree 17 = .ok (.aload_n 0, 1) := by decide +kernel
theorem dX7_isAllFree_18 : decode cX7_isAllFree 18 = .ok (.getfield 24, 3) := by decide +kernel
theorem dX7_isAllFree_21 : decode cX7_isAllFree 21 = .ok (.invokevirtual 75, 3) := by decide +kernel
theorem dX7_isAllFree_24 : decode cX7_isAllFree 24 = .ok (.aload_n 1, 1) := by decide +kernel
theorem dX7_isAllFree_25 : decode cX7_isAllFree 25 = .ok (.iload 4, 2) := by decide +kernel
theorem dX7_isAllFree_27 : decode cX7_isAllFree 27 = .ok (.invokevirtual 44, 3) := by decide +kernel
theorem dX7_isAllFree_30 : decode cX7_isAllFree 30 = .ok (.invokevirtual 90, 3) := by decide +kernel
theorem dX7_isAllFree_33 : decode cX7_isAllFree 33 = .ok (.iload_n 3, 1) := by decide +kernel
theorem dX7_isAllFree_34 : decode cX7_isAllFree 34 = .ok (.iand, 1) := by decide +kernel
theorem dX7_isAllFree_35 : decode cX7_isAllFree 35 = .ok (.ifCond .eq 5, 3) := by decide +kernel
theorem dX7_isAllFree_38 : decode cX7_isAllFree 38 = .ok (.iconst 0, 1) := by decide +kernel
theorem dX7_isAllFree_39 : decode cX7_isAllFree 39 = .ok (.ireturn, 1) := by decide +kernel
theorem dX7_isAllFree_40 : decode cX7_isAllFree 40 = .ok (.iinc 4 1, 3) := by decide +kernel
theorem dX7_isAllFree_43 : decode cX7_isAllFree 43 = .ok (.goto (-35), 3) := by decide +kernel
theorem dX7_isAllFree_46 : decode cX7_isAllFree 46 = .ok (.iconst 1, 1) := by decide +kernel
theorem dX7_isAllFree_47 : decode cX7_isAllFree 47 = .ok (.ireturn, 1) := by decide +kernel
theorem dX8_init_0 : decode cX8_init 0 = .ok (.aload_n 0, 1) := by decide +kernel
theorem dX8_init_1 : decode cX8_init 1 = .ok (.invokespecial 3, 3) := by decide +kernel
theorem dX8_init_4 : decode cX8_init 4 = .ok (.aload_n 0, 1) := by decide +kernel
theorem dX8_init_5 : decode cX8_init 5 = .ok (.iconst 5, 1) := by decide +kernel
theorem dX8_init_6 : decode cX8_init 6 = .ok (.bipush 6, 2) := by decide +kernel
theorem dX8_init_8 : decode cX8_init 8 = .ok (.multianewarray 9 2, 4) := by decide +kernel
theorem dX8_init_12 : decode cX8_init 12 = .ok (.putfield 11, 3) := by decide +kernel
theorem dX8_init_15 : decode cX8_init 15 = .ok (.aload_n 0, 1) := by decide +kernel
theorem dX8_init_16 : decode cX8_init 16 = .ok (.sipush 320, 3) := by decide +kernel
theorem dX8_init_19 : decode cX8_init 19 = .ok (.newarray .int, 2) := by decide +kernel
theorem dX8_init_21 : decode cX8_init 21 = .ok (.putfield 16, 3) := by decide +kernel
theorem dX8_init_24 : decode cX8_init 24 = .ok (.aload_n 0, 1) := by decide +kernel
theorem dX8_init_25 : decode cX8_init 25 = .ok (.sipush 320, 3) := by decide +kernel
theorem dX8_init_28 : decode cX8_init 28 = .ok (.newarray .int, 2) := by decide +kernel
theorem dX8_init_30 : decode cX8_init 30 = .ok (.putfield 20, 3) := by decide +kernel
theorem dX8_init_33 : decode cX8_init 33 = .ok (.aload_n 0, 1) := by decide +kernel
theorem dX8_init_34 : decode cX8_init 34 = .ok (.iconst 1, 1) := by decide +kernel
theorem dX8_init_35 : decode cX8_init 35 = .ok (.putfield 23, 3) := by decide +kernel
theorem dX8_init_38 : decode cX8_init 38 = .ok (.aload_n 0, 1) := by decide +kernel
theorem dX8_init_39 : decode cX8_init 39 = .ok (.iconst 0, 1) := by decide +kernel
theorem dX8_init_40 : decode cX8_init 40 = .ok (.putfield 27, 3) := by decide +kernel
theorem dX8_init_43 : decode cX8_init 43 = .ok (.aload_n 0, 1) := by decide +kernel
theorem dX8_init_44 : decode cX8_init 44 = .ok (.aload_n 1, 1) := by decide +kernel
theorem dX8_init_45 : decode cX8_init 45 = .ok (.putfield 30, 3) := by decide +kernel
theorem dX8_init_48 : decode cX8_init 48 = .ok (.aload_n 0, 1) := by decide +kernel
theorem dX8_init_49 : decode cX8_init 49 = .ok (.aload_n 2, 1) := by decide +kernel
theorem dX8_init_50 : decode cX8_init 50 = .ok (.putfield 34, 3) := by decide +kernel
theorem dX8_init_53 : decode cX8_init 53 = .ok (.return_, 1) := by decide +kernel
theorem dX8_restart_0 : decode cX8_restart 0 = .ok (.aload_n 0, 1) := by decide +kernel
theorem dX8_restart_1 : decode cX8_restart 1 = .ok (.iload_n 1, 1) := by decide +kernel
theorem dX8_restart_2 : decode cX8_restart 2 = .ok (.putfield 23, 3) := by decide +kernel
theorem dX8_restart_5 : decode cX8_restart 5 = .ok (.aload_n 0, 1) := by decide +kernel
theorem dX8_restart_6 : decode cX8_restart 6 = .ok (.iload_n 2, 1) := by decide +kernel
theorem dX8_restart_7 : decode cX8_restart 7 = .ok (.putfield 27, 3) := by decide +kernel
theorem dX8_restart_10 : decode cX8_restart 10 = .ok (.iconst 0, 1) := by decide +kernel
theorem dX8_restart_11 : decode cX8_restart 11 = .ok (.istore_n 3, 1) := by decide +kernel
theorem dX8_restart_12 : decode cX8_restart 12 = .ok (.iload_n 3, 1) := by decide +kernel
theorem dX8_restart_13 : decode cX8_restart 13 = .ok (.aload_n 0, 1) := by decide +kernel
theorem dX8_restart_14 : decode cX8_restart 14 = .ok (.getfield 11, 3) := by decide +kernel
theorem dX8_restart_17 : decode cX8_restart 17 = .ok (.arraylength, 1) := by decide +kernel
theorem dX8_restart_18 : decode cX8_restart 18 = .ok (.if_icmp .ge 19, 3) := by decide +kernel
theorem dX8_restart_21 : decode cX8_restart 21 = .ok (.aload_n 0, 1) := by decide +kernel
theorem dX8_restart_22 : decode cX8_restart 22 = .ok (.getfield 11, 3) := by decide +kernel
theorem dX8_restart_25 : decode cX8_restart 25 = .ok (.iload_n 3, 1) := by decide +kernel
theorem dX8_restart_26 : decode cX8_restart 26 = .ok (.aaload, 1) := by decide +kernel
theorem dX8_restart_27 : decode cX8_restart 27 = .ok (.iload_n 3, 1) := by decide +kernel
theorem dX8_restart_28 : decode cX8_restart 28 = .ok (.invokestatic 38, 3) := by decide +kernel
theorem dX8_restart_31 : decode cX8_restart 31 = .ok (.iinc 3 1, 3) := by decide +kernel
theorem dX8_restart_34 : decode cX8_restart 34 = .ok (.goto (-22), 3) := by decide +kernel
theorem dX8_restart_37 : decode cX8_restart 37 = .ok (.return_, 1) := by decide +kernel
theorem dX8_has_0 : decode cX8_has 0 = .ok (.iload_n 1, 1) := by decide +kernel
theorem dX8_has_1 : decode cX8_has 1 = .ok (.ifCond .lt 15, 3) := by decide +kernel
theorem dX8_has_4 : decode cX8_has 4 = .ok (.iload_n 1, 1) := by decide +kernel
theorem dX8_has_5 : decode cX8_has 5 = .ok (.aload_n 0, 1) := by decide +kernel
theorem dX8_has_6 : decode cX8_has 6 = .ok (.getfield 23, 3) := by decide +kernel
theorem dX8_has_9 : decode cX8_has 9 = .ok (.if_icmp .ge 7, 3) := by decide +kernel
theorem dX8_has_12 : decode cX8_has 12 = .ok (.iconst 1, 1) := by decide +kernel
theorem dX8_has_13 : decode cX8_has 13 = .ok (.goto 4, 3) := by decide +kernel
theorem dX8_has_16 : decode cX8_has 16 = .ok (.iconst 0, 1) := by decide +kernel
theorem dX8_has_17 : decode cX8_has 17 = .ok (.ireturn, 1) := by decide +kernel
theorem dX8_takes_0 : decode cX8_takes 0 = .ok (.aload_n 0, 1) := by decide +kernel
theorem dX8_takes_1 : decode cX8_takes 1 = .ok (.iload_n 1, 1) := by decide +kernel
theorem dX8_takes_2 : decode cX8_takes 2 = .ok (.invokevirtual 44, 3) := by decide +kernel
theorem dX8_takes_5 : decode cX8_takes 5 = .ok (.ifCond .eq 19, 3) := by decide +kernel
theorem dX8_takes_8 : decode cX8_takes 8 = .ok (.aload_n 0, 1) := by decide +kernel
theorem dX8_takes_9 : decode cX8_takes 9 = .ok (.getfield 27, 3) := by decide +kernel
theorem dX8_takes_12 : decode cX8_takes 12 = .ok (.iload_n 1, 1) := by decide +kernel
theorem dX8_takes_13 : decode cX8_takes 13 = .ok (.ishr, 1) := by decide +kernel
theorem dX8_takes_14 : decode cX8_takes 14 = .ok (.iconst 1, 1) := by decide +kernel
theorem dX8_takes_15 : decode cX8_takes 15 = .ok (.iand, 1) := by decide +kernel
theorem dX8_takes_16 : decode cX8_takes 16 = .ok (.iconst 1, 1) := by decide +kernel
theorem dX8_takes_17 : decode cX8_takes 17 = .ok (.if_icmp .ne 7, 3) := by decide +kernel
theorem dX8_takes_20 : decode cX8_takes 20 = .ok (.iconst 1, 1) := by decide +kernel
theorem dX8_takes_21 : decode cX8_takes 21 = .ok (.goto 4, 3) := by decide +kernel
theorem dX8_takes_24 : decode cX8_takes 24 = .ok (.iconst 0, 1) := by decide +kernel
theorem dX8_takes_25 : decode cX8_takes 25 = .ok (.ireturn, 1) := by decide +kernel
theorem dX8_next_0 : decode cX8_next 0 = .ok (.iload_n 1, 1) := by decide +kernel
theorem dX8_next_1 : decode cX8_next 1 = .ok (.ifCond .lt 12, 3) := by decide +kernel
theorem dX8_next_4 : decode cX8_next 4 = .ok (.iload_n 1, 1) := by decide +kernel
theorem dX8_next_5 : decode cX8_next 5 = .ok (.aload_n 0, 1) := by decide +kernel
theorem dX8_next_6 : decode cX8_next 6 = .ok (.getfield 11, 3) := by decide +kernel
theorem dX8_next_9 : decode cX8_next 9 = .ok (.arraylength, 1) := by decide +kernel
theorem dX8_next_10 : decode cX8_next 10 = .ok (.if_icmp .lt 5, 3) := by decide +kernel
theorem dX8_next_13 : decode cX8_next 13 = .ok (.iconst 0, 1) := by decide +kernel
theorem dX8_next_14 : decode cX8_next 14 = .ok (.ireturn, 1) := by decide +kernel
theorem dX8_next_15 : decode cX8_next 15 = .ok (.aload_n 0, 1) := by decide +kernel
theorem dX8_next_16 : decode cX8_next 16 = .ok (.getfield 11, 3) := by decide +kernel
theorem dX8_next_19 : decode cX8_next 19 = .ok (.iload_n 1, 1) := by decide +kernel
theorem dX8_next_20 : decode cX8_next 20 = .ok (.aaload, 1) := by decide +kernel
theorem dX8_next_21 : decode cX8_next 21 = .ok (.astore_n 3, 1) := by decide +kernel
theorem dX8_next_22 : decode cX8_next 22 = .ok (.iload_n 2, 1) := by decide +kernel
theorem dX8_next_23 : decode cX8_next 23 = .ok (.ifCond .lt 15, 3) := by decide +kernel
theorem dX8_next_26 : decode cX8_next 26 = .ok (.iload_n 2, 1) := by decide +kernel
theorem dX8_next_27 : decode cX8_next 27 = .ok (.aload_n 3, 1) := by decide +kernel
theorem dX8_next_28 : decode cX8_next 28 = .ok (.arraylength, 1) := by decide +kernel
theorem dX8_next_29 : decode cX8_next 29 = .ok (.if_icmp .ge 9, 3) := by decide +kernel
theorem dX8_next_32 : decode cX8_next 32 = .ok (.aload_n 3, 1) := by decide +kernel
theorem dX8_next_33 : decode cX8_next 33 = .ok (.iload_n 2, 1) := by decide +kernel
theorem dX8_next_34 : decode cX8_next 34 = .ok (.iaload, 1) := by decide +kernel
theorem dX8_next_35 : decode cX8_next 35 = .ok (.goto 4, 3) := by decide +kernel
theorem dX8_next_38 : decode cX8_next 38 = .ok (.iconst 0, 1) := by decide +kernel
theorem dX8_next_39 : decode cX8_next 39 = .ok (.ireturn, 1) := by decide +kernel
theorem dX8_setMove_0 : decode cX8_setMove 0 = .ok (.iload_n 1, 1) := by decide +kernel
theorem dX8_setMove_1 : decode cX8_setMove 1 = .ok (.ifCond .lt 12, 3) := by decide +kernel
theorem dX8_setMove_4 : decode cX8_setMove 4 = .ok (.iload_n 1, 1) := by decide +kernel
theorem dX8_setMove_5 : decode cX8_setMove 5 = .ok (.aload_n 0, 1) := by decide +kernel
theorem dX8_setMove_6 : decode cX8_setMove 6 = .ok (.getfield 11, 3) := by decide +kernel
theorem dX8_setMove_9 : decode cX8_setMove 9 = .ok (.arraylength, 1) := by decide +kernel
theorem dX8_setMove_10 : decode cX8_setMove 10 = .ok (.if_icmp .lt 4, 3) := by decide +kernel
theorem dX8_setMove_13 : decode cX8_setMove 13 = .ok (.return_, 1) := by decide +kernel
theorem dX8_setMove_14 : decode cX8_setMove 14 = .ok (.aload_n 0, 1) := by decide +kernel
theorem dX8_setMove_15 : decode cX8_setMove 15 = .ok (.getfield 11, 3) := by decide +kernel
theorem dX8_setMove_18 : decode cX8_setMove 18 = .ok (.iload_n 1, 1) := by decide +kernel
theorem dX8_setMove_19 : decode cX8_setMove 19 = .ok (.aaload, 1) := by decide +kernel
theorem dX8_setMove_20 : decode cX8_setMove 20 = .ok (.astore 4, 2) := by decide +kernel
theorem dX8_setMove_22 : decode cX8_setMove 22 = .ok (.iload_n 2, 1) := by decide +kernel
theorem dX8_setMove_23 : decode cX8_setMove 23 = .ok (.ifCond .lt 15, 3) := by decide +kernel
theorem dX8_setMove_26 : decode cX8_setMove 26 = .ok (.iload_n 2, 1) := by decide +kernel
theorem dX8_setMove_27 : decode cX8_setMove 27 = .ok (.aload 4, 2) := by decide +kernel
theorem dX8_setMove_29 : decode cX8_setMove 29 = .ok (.arraylength, 1) := by decide +kernel
theorem dX8_setMove_30 : decode cX8_setMove 30 = .ok (.if_icmp .ge 8, 3) := by decide +kernel
theorem dX8_setMove_33 : decode cX8_setMove 33 = .ok (.aload 4, 2) := by decide +kernel
theorem dX8_setMove_35 : decode cX8_setMove 35 = .ok (.iload_n 2, 1) := by decide +kernel
theorem dX8_setMove_36 : decode cX8_setMove 36 = .ok (.iload_n 3, 1) := by decide +kernel
theorem dX8_setMove_37 : decode cX8_setMove 37 = .ok (.iastore, 1) := by decide +kernel
theorem dX8_setMove_38 : decode cX8_setMove 38 = .ok (.return_, 1) := by decide +kernel
theorem dX8_firstMinded_0 : decode cX8_firstMinded 0 = .ok (.iconst 0, 1) := by decide +kernel
theorem dX8_firstMinded_1 : decode cX8_firstMinded 1 = .ok (.istore_n 1, 1) := by decide +kernel
theorem dX8_firstMinded_2 : decode cX8_firstMinded 2 = .ok (.iload_n 1, 1) := by decide +kernel
theorem dX8_firstMinded_3 : decode cX8_firstMinded 3 = .ok (.aload_n 0, 1) := by decide +kernel
theorem dX8_firstMinded_4 : decode cX8_firstMinded 4 = .ok (.getfield 23, 3) := by decide +kernel
theorem dX8_firstMinded_7 : decode cX8_firstMinded 7 = .ok (.if_icmp .ge 83, 3) := by decide +kernel
theorem dX8_firstMinded_10 : decode cX8_firstMinded 10 = .ok (.iconst 0, 1) := by decide +kernel
theorem dX8_firstMinded_11 : decode cX8_firstMinded 11 = .ok (.istore_n 2, 1) := by decide +kernel
theorem dX8_firstMinded_12 : decode cX8_firstMinded 12 = .ok (.iload_n 2, 1) := by decide +kernel
theorem dX8_firstMinded_13 : decode cX8_firstMinded 13 = .ok (.aload_n 0, 1) := by decide +kernel
theorem dX8_firstMinded_14 : decode cX8_firstMinded 14 = .ok (.getfield 30, 3) := by decide +kernel
theorem dX8_firstMinded_17 : decode cX8_firstMinded 17 = .ok (.invokevirtual 48, 3) := by decide +kernel
theorem dX8_firstMinded_20 : decode cX8_firstMinded 20 = .ok (.if_icmp .ge 64, 3) := by decide +kernel
theorem dX8_firstMinded_23 : decode cX8_firstMinded 23 = .ok (.iload_n 2, 1) := by decide +kernel
theorem dX8_firstMinded_24 : decode cX8_firstMinded 24 = .ok (.iconst 1, 1) := by decide +kernel
theorem dX8_firstMinded_25 : decode cX8_firstMinded 25 = .ok (.iadd, 1) := by decide +kernel
theorem dX8_firstMinded_26 : decode cX8_firstMinded 26 = .ok (.istore_n 3, 1) := by decide +kernel
theorem dX8_firstMinded_27 : decode cX8_firstMinded 27 = .ok (.iload_n 3, 1) := by decide +kernel
theorem dX8_firstMinded_28 : decode cX8_firstMinded 28 = .ok (.aload_n 0, 1) := by decide +kernel
theorem dX8_firstMinded_29 : decode cX8_firstMinded 29 = .ok (.getfield 30, 3) := by decide +kernel
theorem dX8_firstMinded_32 : decode cX8_firstMinded 32 = .ok (.invokevirtual 48, 3) := by decide +kernel
theorem dX8_firstMinded_35 : decode cX8_firstMinded 35 = .ok (.if_icmp .ge 43, 3) := by decide +kernel
theorem dX8_firstMinded_38 : decode cX8_firstMinded 38 = .ok (.aload_n 0, 1) := by decide +kernel
theorem dX8_firstMinded_39 : decode cX8_firstMinded 39 = .ok (.getfield 30, 3) := by decide +kernel
theorem dX8_firstMinded_42 : decode cX8_firstMinded 42 = .ok (.iload_n 2, 1) := by decide +kernel
theorem dX8_firstMinded_43 : decode cX8_firstMinded 43 = .ok (.iload_n 3, 1) := by decide +kernel
theorem dX8_firstMinded_44 : decode cX8_firstMinded 44 = .ok (.invokevirtual 54, 3) := by decide +kernel
theorem dX8_firstMinded_47 : decode cX8_firstMinded 47 = .ok (.ifCond .eq 25, 3) := by decide +kernel
theorem dX8_firstMinded_50 : decode cX8_firstMinded 50 = .ok (.aload_n 0, 1) := by decide +kernel
theorem dX8_firstMinded_51 : decode cX8_firstMinded 51 = .ok (.iload_n 1, 1) := by decide +kernel
theorem dX8_firstMinded_52 : decode cX8_firstMinded 52 = .ok (.iload_n 2, 1) := by decide +kernel
theorem dX8_firstMinded_53 : decode cX8_firstMinded 53 = .ok (.iload_n 3, 1) := by decide +kernel
theorem dX8_firstMinded_54 : decode cX8_firstMinded 54 = .ok (.invokevirtual 58, 3) := by decide +kernel
theorem dX8_firstMinded_57 : decode cX8_firstMinded 57 = .ok (.ifCond .eq 15, 3) := by decide +kernel
theorem dX8_firstMinded_60 : decode cX8_firstMinded 60 = .ok (.bipush 64, 2) := by decide +kernel
theorem dX8_firstMinded_62 : decode cX8_firstMinded 62 = .ok (.iload_n 1, 1) := by decide +kernel
theorem dX8_firstMinded_63 : decode cX8_firstMinded 63 = .ok (.imul, 1) := by decide +kernel
theorem dX8_firstMinded_64 : decode cX8_firstMinded 64 = .ok (.bipush 8, 2) := by decide +kernel
theorem dX8_firstMinded_66 : decode cX8_firstMinded 66 = .ok (.iload_n 2, 1) := by decide +kernel
theorem dX8_firstMinded_67 : decode cX8_firstMinded 67 = .ok (.imul, 1) := by decide +kernel
theorem dX8_firstMinded_68 : decode cX8_firstMinded 68 = .ok (.iadd, 1) := by decide +kernel
theorem dX8_firstMinded_69 : decode cX8_firstMinded 69 = .ok (.iload_n 3, 1) := by decide +kernel
theorem dX8_firstMinded_70 : decode cX8_firstMinded 70 = .ok (.iadd, 1) := by decide +kernel
theorem dX8_firstMinded_71 : decode cX8_firstMinded 71 = .ok (.ireturn, 1) := by decide +kernel
theorem dX8_firstMinded_72 : decode cX8_firstMinded 72 = .ok (.iinc 3 1, 3) := by decide +kernel
theorem dX8_firstMinded_75 : decode cX8_firstMinded 75 = .ok (.goto (-48), 3) := by decide +kernel
theorem dX8_firstMinded_78 : decode cX8_firstMinded 78 = .ok (.iinc 2 1, 3) := by decide +kernel
theorem dX8_firstMinded_81 : decode cX8_firstMinded 81 = .ok (.goto (-69), 3) := by decide +kernel
theorem dX8_firstMinded_84 : decode cX8_firstMinded 84 = .ok (.iinc 1 1, 3) := by decide +kernel
theorem dX8_firstMinded_87 : decode cX8_firstMinded 87 = .ok (.goto (-85), 3) := by decide +kernel
theorem dX8_firstMinded_90 : decode cX8_firstMinded 90 = .ok (.iconst (-1), 1) := by decide +kernel
theorem dX8_firstMinded_91 : decode cX8_firstMinded 91 = .ok (.ireturn, 1) := by decide +kernel
theorem dX8_mindsPair_0 : decode cX8_mindsPair 0 = .ok (.aload_n 0, 1) := by decide +kernel
theorem dX8_mindsPair_1 : decode cX8_mindsPair 1 = .ok (.aload_n 0, 1) := by decide +kernel
theorem dX8_mindsPair_2 : decode cX8_mindsPair 2 = .ok (.iload_n 1, 1) := by decide +kernel
theorem dX8_mindsPair_3 : decode cX8_mindsPair 3 = .ok (.iload_n 2, 1) := by decide +kernel
theorem dX8_mindsPair_4 : decode cX8_mindsPair 4 = .ok (.invokevirtual 62, 3) := by decide +kernel
theorem dX8_mindsPair_7 : decode cX8_mindsPair 7 = .ok (.iload_n 3, 1) := by decide +kernel
theorem dX8_mindsPair_8 : decode cX8_mindsPair 8 = .ok (.invokevirtual 62, 3) := by decide +kernel
theorem dX8_mindsPair_11 : decode cX8_mindsPair 11 = .ok (.aload_n 0, 1) := by decide +kernel
theorem dX8_mindsPair_12 : decode cX8_mindsPair 12 = .ok (.aload_n 0, 1) := by decide +kernel
theorem dX8_mindsPair_13 : decode cX8_mindsPair 13 = .ok (.iload_n 1, 1) := by decide +kernel
theorem dX8_mindsPair_14 : decode cX8_mindsPair 14 = .ok (.iload_n 3, 1) := by decide +kernel
theorem dX8_mindsPair_15 : decode cX8_mindsPair 15 = .ok (.invokevirtual 62, 3) := by decide +kernel
theorem dX8_mindsPair_18 : decode cX8_mindsPair 18 = .ok (.iload_n 2, 1) := by decide +kernel
theorem dX8_mindsPair_19 : decode cX8_mindsPair 19 = .ok (.invokevirtual 62, 3) := by decide +kernel
theorem dX8_mindsPair_22 : decode cX8_mindsPair 22 = .ok (.if_icmp .eq 7, 3) := by decide +kernel
theorem dX8_mindsPair_25 : decode cX8_mindsPair 25 = .ok (.iconst 1, 1) := by decide +kernel
theorem dX8_mindsPair_26 : decode cX8_mindsPair 26 = .ok (.goto 4, 3) := by decide +kernel
theorem dX8_mindsPair_29 : decode cX8_mindsPair 29 = .ok (.iconst 0, 1) := by decide +kernel
theorem dX8_mindsPair_30 : decode cX8_mindsPair 30 = .ok (.ireturn, 1) := by decide +kernel
theorem dX8_stateBehind_0 : decode cX8_stateBehind 0 = .ok (.iconst 0, 1) := by decide +kernel
theorem dX8_stateBehind_1 : decode cX8_stateBehind 1 = .ok (.istore_n 2, 1) := by decide +kernel
theorem dX8_stateBehind_2 : decode cX8_stateBehind 2 = .ok (.iconst 0, 1) := by decide +kernel
theorem dX8_stateBehind_3 : decode cX8_stateBehind 3 = .ok (.istore_n 3, 1) := by decide +kernel
theorem dX8_stateBehind_4 : decode cX8_stateBehind 4 = .ok (.iload_n 3, 1) := by decide +kernel
theorem dX8_stateBehind_5 : decode cX8_stateBehind 5 = .ok (.aload_n 1, 1) := by decide +kernel
theorem dX8_stateBehind_6 : decode cX8_stateBehind 6 = .ok (.invokevirtual 66, 3) := by decide +kernel
theorem dX8_stateBehind_9 : decode cX8_stateBehind 9 = .ok (.if_icmp .ge 20, 3) := by decide +kernel
theorem dX8_stateBehind_12 : decode cX8_stateBehind 12 = .ok (.aload_n 0, 1) := by decide +kernel
theorem dX8_stateBehind_13 : decode cX8_stateBehind 13 = .ok (.iload_n 2, 1) := by decide +kernel
theorem dX8_stateBehind_14 : decode cX8_stateBehind 14 = .ok (.aload_n 1, 1) := by decide +kernel
theorem dX8_stateBehind_15 : decode cX8_stateBehind 15 = .ok (.iload_n 3, 1) := by decide +kernel
theorem dX8_stateBehind_16 : decode cX8_stateBehind 16 = .ok (.invokevirtual 71, 3) := by decide +kernel
theorem dX8_stateBehind_19 : decode cX8_stateBehind 19 = .ok (.invokevirtual 62, 3) := by decide +kernel
theorem dX8_stateBehind_22 : decode cX8_stateBehind 22 = .ok (.istore_n 2, 1) := by decide +kernel
theorem dX8_stateBehind_23 : decode cX8_stateBehind 23 = .ok (.iinc 3 1, 3) := by decide +kernel
theorem dX8_stateBehind_26 : decode cX8_stateBehind 26 = .ok (.goto (-22), 3) := by decide +kernel
theorem dX8_stateBehind_29 : decode cX8_stateBehind 29 = .ok (.iload_n 2, 1) := by decide +kernel
theorem dX8_stateBehind_30 : decode cX8_stateBehind 30 = .ok (.ireturn, 1) := by decide +kernel
theorem dX8_heapsTaken_0 : decode cX8_heapsTaken 0 = .ok (.aload_n 0, 1) := by decide +kernel
theorem dX8_heapsTaken_1 : decode cX8_heapsTaken 1 = .ok (.getfield 30, 3) := by decide +kernel
theorem dX8_heapsTaken_4 : decode cX8_heapsTaken 4 = .ok (.invokevirtual 75, 3) := by decide +kernel
theorem dX8_heapsTaken_7 : decode cX8_heapsTaken 7 = .ok (.istore_n 2, 1) := by decide +kernel
theorem dX8_heapsTaken_8 : decode cX8_heapsTaken 8 = .ok (.aload_n 0, 1) := by decide +kernel
theorem dX8_heapsTaken_9 : decode cX8_heapsTaken 9 = .ok (.getfield 16, 3) := by decide +kernel
theorem dX8_heapsTaken_12 : decode cX8_heapsTaken 12 = .ok (.iconst 0, 1) := by decide +kernel
theorem dX8_heapsTaken_13 : decode cX8_heapsTaken 13 = .ok (.invokestatic 38, 3) := by decide +kernel
theorem dX8_heapsTaken_16 : decode cX8_heapsTaken 16 = .ok (.aload_n 0, 1) := by decide +kernel
theorem dX8_heapsTaken_17 : decode cX8_heapsTaken 17 = .ok (.getfield 16, 3) := by decide +kernel
theorem dX8_heapsTaken_20 : decode cX8_heapsTaken 20 = .ok (.iconst 0, 1) := by decide +kernel
theorem dX8_heapsTaken_21 : decode cX8_heapsTaken 21 = .ok (.iconst 1, 1) := by decide +kernel
theorem dX8_heapsTaken_22 : decode cX8_heapsTaken 22 = .ok (.iastore, 1) := by decide +kernel
theorem dX8_heapsTaken_23 : decode cX8_heapsTaken 23 = .ok (.iconst 0, 1) := by decide +kernel
theorem dX8_heapsTaken_24 : decode cX8_heapsTaken 24 = .ok (.istore_n 3, 1) := by decide +kernel
theorem dX8_heapsTaken_25 : decode cX8_heapsTaken 25 = .ok (.iload_n 3, 1) := by decide +kernel
theorem dX8_heapsTaken_26 : decode cX8_heapsTaken 26 = .ok (.iload_n 1, 1) := by decide +kernel
theorem dX8_heapsTaken_27 : decode cX8_heapsTaken 27 = .ok (.if_icmp .ge 78, 3) := by decide +kernel
theorem dX8_heapsTaken_30 : decode cX8_heapsTaken 30 = .ok (.aload_n 0, 1) := by decide +kernel
theorem dX8_heapsTaken_31 : decode cX8_heapsTaken 31 = .ok (.getfield 20, 3) := by decide +kernel
theorem dX8_heapsTaken_34 : decode cX8_heapsTaken 34 = .ok (.iconst 0, 1) := by decide +kernel
theorem dX8_heapsTaken_35 : decode cX8_heapsTaken 35 = .ok (.invokestatic 38, 3) := by decide +kernel
theorem dX8_heapsTaken_38 : decode cX8_heapsTaken 38 = .ok (.iconst 0, 1) := by decide +kernel
theorem dX8_heapsTaken_39 : decode cX8_heapsTaken 39 = .ok (.istore 4, 2) := by decide +kernel
theorem dX8_heapsTaken_41 : decode cX8_heapsTaken 41 = .ok (.iload 4, 2) := by decide +kernel
theorem dX8_heapsTaken_43 : decode cX8_heapsTaken 43 = .ok (.iload_n 2, 1) := by decide +kernel
theorem dX8_heapsTaken_44 : decode cX8_heapsTaken 44 = .ok (.if_icmp .gt 35, 3) := by decide +kernel
theorem dX8_heapsTaken_47 : decode cX8_heapsTaken 47 = .ok (.iconst 0, 1) := by decide +kernel
theorem dX8_heapsTaken_48 : decode cX8_heapsTaken 48 = .ok (.istore 5, 2) := by decide +kernel
theorem dX8_heapsTaken_50 : decode cX8_heapsTaken 50 = .ok (.iload 5, 2) := by decide +kernel
theorem dX8_heapsTaken_52 : decode cX8_heapsTaken 52 = .ok (.aload_n 0, 1) := by decide +kernel
theorem dX8_heapsTaken_53 : decode cX8_heapsTaken 53 = .ok (.getfield 23, 3) := by decide +kernel
theorem dX8_heapsTaken_56 : decode cX8_heapsTaken 56 = .ok (.if_icmp .ge 17, 3) := by decide +kernel
theorem dX8_heapsTaken_59 : decode cX8_heapsTaken 59 = .ok (.aload_n 0, 1) := by decide +kernel
theorem dX8_heapsTaken_60 : decode cX8_heapsTaken 60 = .ok (.iload 4, 2) := by decide +kernel
theorem dX8_heapsTaken_62 : decode cX8_heapsTaken 62 = .ok (.iload 5, 2) := by decide +kernel
theorem dX8_heapsTaken_64 : decode cX8_heapsTaken 64 = .ok (.invokevirtual 78, 3) := by decide +kernel
theorem dX8_heapsTaken_67 : decode cX8_heapsTaken 67 = .ok (.iinc 5 1, 3) := by decide +kernel
theorem dX8_heapsTaken_70 : decode cX8_heapsTaken 70 = .ok (.goto (-20), 3) := by decide +kernel
theorem dX8_heapsTaken_73 : decode cX8_heapsTaken 73 = .ok (.iinc 4 1, 3) := by decide +kernel
theorem dX8_heapsTaken_76 : decode cX8_heapsTaken 76 = .ok (.goto (-35), 3) := by decide +kernel
theorem dX8_heapsTaken_79 : decode cX8_heapsTaken 79 = .ok (.aload_n 0, 1) := by decide +kernel
theorem dX8_heapsTaken_80 : decode cX8_heapsTaken 80 = .ok (.getfield 16, 3) := by decide +kernel
theorem dX8_heapsTaken_83 : decode cX8_heapsTaken 83 = .ok (.astore 4, 2) := by decide +kernel
theorem dX8_heapsTaken_85 : decode cX8_heapsTaken 85 = .ok (.aload_n 0, 1) := by decide +kernel
theorem dX8_heapsTaken_86 : decode cX8_heapsTaken 86 = .ok (.aload_n 0, 1) := by decide +kernel
theorem dX8_heapsTaken_87 : decode cX8_heapsTaken 87 = .ok (.getfield 20, 3) := by decide +kernel
theorem dX8_heapsTaken_90 : decode cX8_heapsTaken 90 = .ok (.putfield 16, 3) := by decide +kernel
theorem dX8_heapsTaken_93 : decode cX8_heapsTaken 93 = .ok (.aload_n 0, 1) := by decide +kernel
theorem dX8_heapsTaken_94 : decode cX8_heapsTaken 94 = .ok (.aload 4, 2) := by decide +kernel
theorem dX8_heapsTaken_96 : decode cX8_heapsTaken 96 = .ok (.putfield 20, 3) := by decide +kernel
theorem dX8_heapsTaken_99 : decode cX8_heapsTaken 99 = .ok (.iinc 3 1, 3) := by decide +kernel
theorem dX8_heapsTaken_102 : decode cX8_heapsTaken 102 = .ok (.goto (-77), 3) := by decide +kernel
theorem dX8_heapsTaken_105 : decode cX8_heapsTaken 105 = .ok (.aload_n 0, 1) := by decide +kernel
theorem dX8_heapsTaken_106 : decode cX8_heapsTaken 106 = .ok (.invokevirtual 82, 3) := by decide +kernel
theorem dX8_heapsTaken_109 : decode cX8_heapsTaken 109 = .ok (.ireturn, 1) := by decide +kernel
theorem dX8_goOnFrom_0 : decode cX8_goOnFrom 0 = .ok (.iload_n 1, 1) := by decide +kernel
theorem dX8_goOnFrom_1 : decode cX8_goOnFrom 1 = .ok (.iconst 5, 1) := by decide +kernel
theorem dX8_goOnFrom_2 : decode cX8_goOnFrom 2 = .ok (.imul, 1) := by decide +kernel
theorem dX8_goOnFrom_3 : decode cX8_goOnFrom 3 = .ok (.iload_n 2, 1) := by decide +kernel
theorem dX8_goOnFrom_4 : decode cX8_goOnFrom 4 = .ok (.iadd, 1) := by decide +kernel
theorem dX8_goOnFrom_5 : decode cX8_goOnFrom 5 = .ok (.istore_n 3, 1) := by decide +kernel
theorem dX8_goOnFrom_6 : decode cX8_goOnFrom 6 = .ok (.iload_n 3, 1) := by decide +kernel
theorem dX8_goOnFrom_7 : decode cX8_goOnFrom 7 = .ok (.ifCond .lt 21, 3) := by decide +kernel
theorem dX8_goOnFrom_10 : decode cX8_goOnFrom 10 = .ok (.iload_n 3, 1) := by decide +kernel
theorem dX8_goOnFrom_11 : decode cX8_goOnFrom 11 = .ok (.aload_n 0, 1) := by decide +kernel
theorem dX8_goOnFrom_12 : decode cX8_goOnFrom 12 = .ok (.getfield 16, 3) := by decide +kernel
theorem dX8_goOnFrom_15 : decode cX8_goOnFrom 15 = .ok (.arraylength, 1) := by decide +kernel
theorem dX8_goOnFrom_16 : decode cX8_goOnFrom 16 = .ok (.if_icmp .ge 12, 3) := by decide +kernel
theorem dX8_goOnFrom_19 : decode cX8_goOnFrom 19 = .ok (.aload_n 0, 1) := by decide +kernel
theorem dX8_goOnFrom_20 : decode cX8_goOnFrom 20 = .ok (.getfield 16, 3) := by decide +kernel
theorem dX8_goOnFrom_23 : decode cX8_goOnFrom 23 = .ok (.iload_n 3, 1) := by decide +kernel
theorem dX8_goOnFrom_24 : decode cX8_goOnFrom 24 = .ok (.iaload, 1) := by decide +kernel
theorem dX8_goOnFrom_25 : decode cX8_goOnFrom 25 = .ok (.ifCond .ne 4, 3) := by decide +kernel
theorem dX8_goOnFrom_28 : decode cX8_goOnFrom 28 = .ok (.return_, 1) := by decide +kernel
theorem dX8_goOnFrom_29 : decode cX8_goOnFrom 29 = .ok (.iconst 0, 1) := by decide +kernel
theorem dX8_goOnFrom_30 : decode cX8_goOnFrom 30 = .ok (.istore 4, 2) := by decide +kernel
theorem dX8_goOnFrom_32 : decode cX8_goOnFrom 32 = .ok (.iload 4, 2) := by decide +kernel
theorem dX8_goOnFrom_34 : decode cX8_goOnFrom 34 = .ok (.aload_n 0, 1) := by decide +kernel
theorem dX8_goOnFrom_35 : decode cX8_goOnFrom 35 = .ok (.getfield 30, 3) := by decide +kernel
theorem dX8_goOnFrom_38 : decode cX8_goOnFrom 38 = .ok (.invokevirtual 48, 3) := by decide +kernel
theorem dX8_goOnFrom_41 : decode cX8_goOnFrom 41 = .ok (.if_icmp .ge 79, 3) := by decide +kernel
theorem dX8_goOnFrom_44 : decode cX8_goOnFrom 44 = .ok (.iload_n 1, 1) := by decide +kernel
theorem dX8_goOnFrom_45 : decode cX8_goOnFrom 45 = .ok (.iload 4, 2) := by decide +kernel
theorem dX8_goOnFrom_47 : decode cX8_goOnFrom 47 = .ok (.ishr, 1) := by decide +kernel
theorem dX8_goOnFrom_48 : decode cX8_goOnFrom 48 = .ok (.iconst 1, 1) := by decide +kernel
theorem dX8_goOnFrom_49 : decode cX8_goOnFrom 49 = .ok (.iand, 1) := by decide +kernel
theorem dX8_goOnFrom_50 : decode cX8_goOnFrom 50 = .ok (.ifCond .ne 64, 3) := by decide +kernel
theorem dX8_goOnFrom_53 : decode cX8_goOnFrom 53 = .ok (.aload_n 0, 1) := by decide +kernel
theorem dX8_goOnFrom_54 : decode cX8_goOnFrom 54 = .ok (.getfield 34, 3) := by decide +kernel
theorem dX8_goOnFrom_57 : decode cX8_goOnFrom 57 = .ok (.iload_n 1, 1) := by decide +kernel
theorem dX8_goOnFrom_58 : decode cX8_goOnFrom 58 = .ok (.iload 4, 2) := by decide +kernel
theorem dX8_goOnFrom_60 : decode cX8_goOnFrom 60 = .ok (.invokevirtual 85, 3) := by decide +kernel
theorem dX8_goOnFrom_63 : decode cX8_goOnFrom 63 = .ok (.iconst 5, 1) := by decide +kernel
theorem dX8_goOnFrom_64 : decode cX8_goOnFrom 64 = .ok (.imul, 1) := by decide +kernel
theorem dX8_goOnFrom_65 : decode cX8_goOnFrom 65 = .ok (.aload_n 0, 1) := by decide +kernel
theorem dX8_goOnFrom_66 : decode cX8_goOnFrom 66 = .ok (.iload_n 2, 1) := by decide +kernel
theorem dX8_goOnFrom_67 : decode cX8_goOnFrom 67 = .ok (.iload 4, 2) := by decide +kernel
theorem dX8_goOnFrom_69 : decode cX8_goOnFrom 69 = .ok (.invokevirtual 62, 3) := by decide +kernel
theorem dX8_goOnFrom_72 : decode cX8_goOnFrom 72 = .ok (.iadd, 1) := by decide +kernel
theorem dX8_goOnFrom_73 : decode cX8_goOnFrom 73 = .ok (.istore 5, 2) := by decide +kernel
theorem dX8_goOnFrom_75 : decode cX8_goOnFrom 75 = .ok (.iload 5, 2) := by decide +kernel
theorem dX8_goOnFrom_77 : decode cX8_goOnFrom 77 = .ok (.ifCond .lt 37, 3) := by decide +kernel
theorem dX8_goOnFrom_80 : decode cX8_goOnFrom 80 = .ok (.iload 5, 2) := by decide +kernel
theorem dX8_goOnFrom_82 : decode cX8_goOnFrom 82 = .ok (.aload_n 0, 1) := by decide +kernel
theorem dX8_goOnFrom_83 : decode cX8_goOnFrom 83 = .ok (.getfield 20, 3) := by decide +kernel
theorem dX8_goOnFrom_86 : decode cX8_goOnFrom 86 = .ok (.arraylength, 1) := by decide +kernel
theorem dX8_goOnFrom_87 : decode cX8_goOnFrom 87 = .ok (.if_icmp .ge 27, 3) := by decide +kernel
theorem dX8_goOnFrom_90 : decode cX8_goOnFrom 90 = .ok (.aload_n 0, 1) := by decide +kernel
theorem dX8_goOnFrom_91 : decode cX8_goOnFrom 91 = .ok (.getfield 20, 3) := by decide +kernel
theorem dX8_goOnFrom_94 : decode cX8_goOnFrom 94 = .ok (.iload 5, 2) := by decide +kernel
theorem dX8_goOnFrom_96 : decode cX8_goOnFrom 96 = .ok (.aload_n 0, 1) := by decide +kernel
theorem dX8_goOnFrom_97 : decode cX8_goOnFrom 97 = .ok (.getfield 20, 3) := by decide +kernel
theorem dX8_goOnFrom_100 : decode cX8_goOnFrom 100 = .ok (.iload 5, 2) := by decide +kernel
theorem dX8_goOnFrom_102 : decode cX8_goOnFrom 102 = .ok (.iaload, 1) := by decide +kernel
theorem dX8_goOnFrom_103 : decode cX8_goOnFrom 103 = .ok (.aload_n 0, 1) := by decide +kernel
theorem dX8_goOnFrom_104 : decode cX8_goOnFrom 104 = .ok (.getfield 16, 3) := by decide +kernel
theorem dX8_goOnFrom_107 : decode cX8_goOnFrom 107 = .ok (.iload_n 3, 1) := by decide +kernel
theorem dX8_goOnFrom_108 : decode cX8_goOnFrom 108 = .ok (.iaload, 1) := by decide +kernel
theorem dX8_goOnFrom_109 : decode cX8_goOnFrom 109 = .ok (.iadd, 1) := by decide +kernel
theorem dX8_goOnFrom_110 : decode cX8_goOnFrom 110 = .ok (.ldc 90, 2) := by decide +kernel
theorem dX8_goOnFrom_112 : decode cX8_goOnFrom 112 = .ok (.irem, 1) := by decide +kernel
theorem dX8_goOnFrom_113 : decode cX8_goOnFrom 113 = .ok (.iastore, 1) := by decide +kernel
theorem dX8_goOnFrom_114 : decode cX8_goOnFrom 114 = .ok (.iinc 4 1, 3) := by decide +kernel
theorem dX8_goOnFrom_117 : decode cX8_goOnFrom 117 = .ok (.goto (-85), 3) := by decide +kernel
theorem dX8_goOnFrom_120 : decode cX8_goOnFrom 120 = .ok (.return_, 1) := by decide +kernel
theorem dX8_sumTaken_0 : decode cX8_sumTaken 0 = .ok (.lconst 0, 1) := by decide +kernel
theorem dX8_sumTaken_1 : decode cX8_sumTaken 1 = .ok (.lstore_n 1, 1) := by decide +kernel
theorem dX8_sumTaken_2 : decode cX8_sumTaken 2 = .ok (.iconst 0, 1) := by decide +kernel
theorem dX8_sumTaken_3 : decode cX8_sumTaken 3 = .ok (.istore_n 3, 1) := by decide +kernel
theorem dX8_sumTaken_4 : decode cX8_sumTaken 4 = .ok (.iload_n 3, 1) := by decide +kernel
theorem dX8_sumTaken_5 : decode cX8_sumTaken 5 = .ok (.aload_n 0, 1) := by decide +kernel
theorem dX8_sumTaken_6 : decode cX8_sumTaken 6 = .ok (.getfield 16, 3) := by decide +kernel
theorem dX8_sumTaken_9 : decode cX8_sumTaken 9 = .ok (.arraylength, 1) := by decide +kernel
theorem dX8_sumTaken_10 : decode cX8_sumTaken 10 = .ok (.if_icmp .ge 29, 3) := by decide +kernel
theorem dX8_sumTaken_13 : decode cX8_sumTaken 13 = .ok (.aload_n 0, 1) := by decide +kernel
theorem dX8_sumTaken_14 : decode cX8_sumTaken 14 = .ok (.iload_n 3, 1) := by decide +kernel
theorem dX8_sumTaken_15 : decode cX8_sumTaken 15 = .ok (.iconst 5, 1) := by decide +kernel
theorem dX8_sumTaken_16 : decode cX8_sumTaken 16 = .ok (.irem, 1) := by decide +kernel
theorem dX8_sumTaken_17 : decode cX8_sumTaken 17 = .ok (.invokevirtual 91, 3) := by decide +kernel
theorem dX8_sumTaken_20 : decode cX8_sumTaken 20 = .ok (.ifCond .eq 13, 3) := by decide +kernel
theorem dX8_sumTaken_23 : decode cX8_sumTaken 23 = .ok (.lload_n 1, 1) := by decide +kernel
theorem dX8_sumTaken_24 : decode cX8_sumTaken 24 = .ok (.aload_n 0, 1) := by decide +kernel
theorem dX8_sumTaken_25 : decode cX8_sumTaken 25 = .ok (.getfield 16, 3) := by decide +kernel
theorem dX8_sumTaken_28 : decode cX8_sumTaken 28 = .ok (.iload_n 3, 1) := by decide +kernel
theorem dX8_sumTaken_29 : decode cX8_sumTaken 29 = .ok (.iaload, 1) := by decide +kernel
theorem dX8_sumTaken_30 : decode cX8_sumTaken 30 = .ok (.i2l, 1) := by decide +kernel
theorem dX8_sumTaken_31 : decode cX8_sumTaken 31 = .ok (.ladd, 1) := by decide +kernel
theorem dX8_sumTaken_32 : decode cX8_sumTaken 32 = .ok (.lstore_n 1, 1) := by decide +kernel
theorem dX8_sumTaken_33 : decode cX8_sumTaken 33 = .ok (.iinc 3 1, 3) := by decide +kernel
theorem dX8_sumTaken_36 : decode cX8_sumTaken 36 = .ok (.goto (-32), 3) := by decide +kernel
theorem dX8_sumTaken_39 : decode cX8_sumTaken 39 = .ok (.lload_n 1, 1) := by decide +kernel
theorem dX8_sumTaken_40 : decode cX8_sumTaken 40 = .ok (.ldc2_w 94, 3) := by decide +kernel
theorem dX8_sumTaken_43 : decode cX8_sumTaken 43 = .ok (.lrem, 1) := by decide +kernel
theorem dX8_sumTaken_44 : decode cX8_sumTaken 44 = .ok (.l2i, 1) := by decide +kernel
theorem dX8_sumTaken_45 : decode cX8_sumTaken 45 = .ok (.ireturn, 1) := by decide +kernel
theorem dX9_init_0 : decode cX9_init 0 = .ok (.aload_n 0, 1) := by decide +kernel
theorem dX9_init_1 : decode cX9_init 1 = .ok (.invokespecial 3, 3) := by decide +kernel
theorem dX9_init_4 : decode cX9_init 4 = .ok (.aload_n 0, 1) := by decide +kernel
theorem dX9_init_5 : decode cX9_init 5 = .ok (.bipush 24, 2) := by decide +kernel
theorem dX9_init_7 : decode cX9_init 7 = .ok (.newarray .int, 2) := by decide +kernel
theorem dX9_init_9 : decode cX9_init 9 = .ok (.putfield 9, 3) := by decide +kernel
theorem dX9_init_12 : decode cX9_init 12 = .ok (.aload_n 0, 1) := by decide +kernel
theorem dX9_init_13 : decode cX9_init 13 = .ok (.iconst 0, 1) := by decide +kernel
theorem dX9_init_14 : decode cX9_init 14 = .ok (.putfield 15, 3) := by decide +kernel
theorem dX9_init_17 : decode cX9_init 17 = .ok (.return_, 1) := by decide +kernel
theorem dX9_length_0 : decode cX9_length 0 = .ok (.aload_n 0, 1) := by decide +kernel
theorem dX9_length_1 : decode cX9_length 1 = .ok (.getfield 15, 3) := by decide +kernel
theorem dX9_length_4 : decode cX9_length 4 = .ok (.ireturn, 1) := by decide +kernel
theorem dX9_hasPlace_0 : decode cX9_hasPlace 0 = .ok (.iload_n 1, 1) := by decide +kernel
theorem dX9_hasPlace_1 : decode cX9_hasPlace 1 = .ok (.ifCond .lt 24, 3) := by decide +kernel
theorem dX9_hasPlace_4 : decode cX9_hasPlace 4 = .ok (.iload_n 1, 1) := by decide +kernel
theorem dX9_hasPlace_5 : decode cX9_hasPlace 5 = .ok (.aload_n 0, 1) := by decide +kernel
theorem dX9_hasPlace_6 : decode cX9_hasPlace 6 = .ok (.getfield 15, 3) := by decide +kernel
theorem dX9_hasPlace_9 : decode cX9_hasPlace 9 = .ok (.if_icmp .ge 16, 3) := by decide +kernel
theorem dX9_hasPlace_12 : decode cX9_hasPlace 12 = .ok (.iload_n 1, 1) := by decide +kernel
theorem dX9_hasPlace_13 : decode cX9_hasPlace 13 = .ok (.aload_n 0, 1) := by decide +kernel
theorem dX9_hasPlace_14 : decode cX9_hasPlace 14 = .ok (.getfield 9, 3) := by decide +kernel
theorem dX9_hasPlace_17 : decode cX9_hasPlace 17 = .ok (.arraylength, 1) := by decide +kernel
theorem dX9_hasPlace_18 : decode cX9_hasPlace 18 = .ok (.if_icmp .ge 7, 3) := by decide +kernel
theorem dX9_hasPlace_21 : decode cX9_hasPlace 21 = .ok (.iconst 1, 1) := by decide +kernel
theorem dX9_hasPlace_22 : decode cX9_hasPlace 22 = .ok (.goto 4, 3) := by decide +kernel
theorem dX9_hasPlace_25 : decode cX9_hasPlace 25 = .ok (.iconst 0, 1) := by decide +kernel
theorem dX9_hasPlace_26 : decode cX9_hasPlace 26 = .ok (.ireturn, 1) := by decide +kernel
theorem dX9_at_0 : decode cX9_at 0 = .ok (.iload_n 1, 1) := by decide +kernel
theorem dX9_at_1 : decode cX9_at 1 = .ok (.ifCond .lt 29, 3) := by decide +kernel
theorem dX9_at_4 : decode cX9_at 4 = .ok (.iload_n 1, 1) := by decide +kernel
theorem dX9_at_5 : decode cX9_at 5 = .ok (.aload_n 0, 1) := by decide +kernel
theorem dX9_at_6 : decode cX9_at 6 = .ok (.getfield 15, 3) := by decide +kernel
theorem dX9_at_9 : decode cX9_at 9 = .ok (.if_icmp .ge 21, 3) := by decide +kernel
theorem dX9_at_12 : decode cX9_at 12 = .ok (.iload_n 1, 1) := by decide +kernel
theorem dX9_at_13 : decode cX9_at 13 = .ok (.aload_n 0, 1) := by decide +kernel
theorem dX9_at_14 : decode cX9_at 14 = .ok (.getfield 9, 3) := by decide +kernel
theorem dX9_at_17 : decode cX9_at 17 = .ok (.arraylength, 1) := by decide +kernel
theorem dX9_at_18 : decode cX9_at 18 = .ok (.if_icmp .ge 12, 3) := by decide +kernel
theorem dX9_at_21 : decode cX9_at 21 = .ok (.aload_n 0, 1) := by decide +kernel
theorem dX9_at_22 : decode cX9_at 22 = .ok (.getfield 9, 3) := by decide +kernel
theorem dX9_at_25 : decode cX9_at 25 = .ok (.iload_n 1, 1) := by decide +kernel
theorem dX9_at_26 : decode cX9_at 26 = .ok (.iaload, 1) := by decide +kernel
theorem dX9_at_27 : decode cX9_at 27 = .ok (.goto 4, 3) := by decide +kernel
theorem dX9_at_30 : decode cX9_at 30 = .ok (.iconst (-1), 1) := by decide +kernel
theorem dX9_at_31 : decode cX9_at 31 = .ok (.ireturn, 1) := by decide +kernel
theorem dX9_wipe_0 : decode cX9_wipe 0 = .ok (.aload_n 0, 1) := by decide +kernel
theorem dX9_wipe_1 : decode cX9_wipe 1 = .ok (.iconst 0, 1) := by decide +kernel
theorem dX9_wipe_2 : decode cX9_wipe 2 = .ok (.putfield 15, 3) := by decide +kernel
theorem dX9_wipe_5 : decode cX9_wipe 5 = .ok (.return_, 1) := by decide +kernel
theorem dX9_push_0 : decode cX9_push 0 = .ok (.aload_n 0, 1) := by decide +kernel
theorem dX9_push_1 : decode cX9_push 1 = .ok (.getfield 15, 3) := by decide +kernel
theorem dX9_push_4 : decode cX9_push 4 = .ok (.ifCond .lt 15, 3) := by decide +kernel
theorem dX9_push_7 : decode cX9_push 7 = .ok (.aload_n 0, 1) := by decide +kernel
theorem dX9_push_8 : decode cX9_push 8 = .ok (.getfield 15, 3) := by decide +kernel
theorem dX9_push_11 : decode cX9_push 11 = .ok (.aload_n 0, 1) := by decide +kernel
theorem dX9_push_12 : decode cX9_push 12 = .ok (.getfield 9, 3) := by decide +kernel
theorem dX9_push_15 : decode cX9_push 15 = .ok (.arraylength, 1) := by decide +kernel
theorem dX9_push_16 : decode cX9_push 16 = .ok (.if_icmp .lt 5, 3) := by decide +kernel
theorem dX9_push_19 : decode cX9_push 19 = .ok (.iconst 0, 1) := by decide +kernel
theorem dX9_push_20 : decode cX9_push 20 = .ok (.ireturn, 1) := by decide +kernel
theorem dX9_push_21 : decode cX9_push 21 = .ok (.aload_n 0, 1) := by decide +kernel
theorem dX9_push_22 : decode cX9_push 22 = .ok (.getfield 9, 3) := by decide +kernel
theorem dX9_push_25 : decode cX9_push 25 = .ok (.aload_n 0, 1) := by decide +kernel
theorem dX9_push_26 : decode cX9_push 26 = .ok (.getfield 15, 3) := by decide +kernel
theorem dX9_push_29 : decode cX9_push 29 = .ok (.iload_n 1, 1) := by decide +kernel
theorem dX9_push_30 : decode cX9_push 30 = .ok (.iastore, 1) := by decide +kernel
theorem dX9_push_31 : decode cX9_push 31 = .ok (.aload_n 0, 1) := by decide +kernel
theorem dX9_push_32 : decode cX9_push 32 = .ok (.dup, 1) := by decide +kernel
theorem dX9_push_33 : decode cX9_push 33 = .ok (.getfield 15, 3) := by decide +kernel
theorem dX9_push_36 : decode cX9_push 36 = .ok (.iconst 1, 1) := by decide +kernel
theorem dX9_push_37 : decode cX9_push 37 = .ok (.iadd, 1) := by decide +kernel
theorem dX9_push_38 : decode cX9_push 38 = .ok (.putfield 15, 3) := by decide +kernel
theorem dX9_push_41 : decode cX9_push 41 = .ok (.iconst 1, 1) := by decide +kernel
theorem dX9_push_42 : decode cX9_push 42 = .ok (.ireturn, 1) := by decide +kernel
theorem dX9_append_0 : decode cX9_append 0 = .ok (.aload_n 1, 1) := by decide +kernel
theorem dX9_append_1 : decode cX9_append 1 = .ok (.getfield 15, 3) := by decide +kernel
theorem dX9_append_4 : decode cX9_append 4 = .ok (.istore_n 2, 1) := by decide +kernel
theorem dX9_append_5 : decode cX9_append 5 = .ok (.aload_n 0, 1) := by decide +kernel
theorem dX9_append_6 : decode cX9_append 6 = .ok (.getfield 15, 3) := by decide +kernel
theorem dX9_append_9 : decode cX9_append 9 = .ok (.iload_n 2, 1) := by decide +kernel
theorem dX9_append_10 : decode cX9_append 10 = .ok (.iadd, 1) := by decide +kernel
theorem dX9_append_11 : decode cX9_append 11 = .ok (.aload_n 0, 1) := by decide +kernel
theorem dX9_append_12 : decode cX9_append 12 = .ok (.getfield 9, 3) := by decide +kernel
theorem dX9_append_15 : decode cX9_append 15 = .ok (.arraylength, 1) := by decide +kernel
theorem dX9_append_16 : decode cX9_append 16 = .ok (.if_icmp .le 5, 3) := by decide +kernel
theorem dX9_append_19 : decode cX9_append 19 = .ok (.iconst 0, 1) := by decide +kernel
theorem dX9_append_20 : decode cX9_append 20 = .ok (.ireturn, 1) := by decide +kernel
theorem dX9_append_21 : decode cX9_append 21 = .ok (.iconst 0, 1) := by decide +kernel
theorem dX9_append_22 : decode cX9_append 22 = .ok (.istore_n 3, 1) := by decide +kernel
theorem dX9_append_23 : decode cX9_append 23 = .ok (.iload_n 3, 1) := by decide +kernel
theorem dX9_append_24 : decode cX9_append 24 = .ok (.iload_n 2, 1) := by decide +kernel
theorem dX9_append_25 : decode cX9_append 25 = .ok (.if_icmp .ge 19, 3) := by decide +kernel
theorem dX9_append_28 : decode cX9_append 28 = .ok (.aload_n 0, 1) := by decide +kernel
theorem dX9_append_29 : decode cX9_append 29 = .ok (.aload_n 1, 1) := by decide +kernel
theorem dX9_append_30 : decode cX9_append 30 = .ok (.iload_n 3, 1) := by decide +kernel
theorem dX9_append_31 : decode cX9_append 31 = .ok (.invokevirtual 19, 3) := by decide +kernel
theorem dX9_append_34 : decode cX9_append 34 = .ok (.invokevirtual 23, 3) := by decide +kernel
theorem dX9_append_37 : decode cX9_append 37 = .ok (.pop, 1) := by decide +kernel
theorem dX9_append_38 : decode cX9_append 38 = .ok (.iinc 3 1, 3) := by decide +kernel
theorem dX9_append_41 : decode cX9_append 41 = .ok (.goto (-18), 3) := by decide +kernel
theorem dX9_append_44 : decode cX9_append 44 = .ok (.iconst 1, 1) := by decide +kernel
theorem dX9_append_45 : decode cX9_append 45 = .ok (.ireturn, 1) := by decide +kernel
theorem dX9_become_0 : decode cX9_become 0 = .ok (.aload_n 0, 1) := by decide +kernel
theorem dX9_become_1 : decode cX9_become 1 = .ok (.iconst 0, 1) := by decide +kernel
theorem dX9_become_2 : decode cX9_become 2 = .ok (.putfield 15, 3) := by decide +kernel
theorem dX9_become_5 : decode cX9_become 5 = .ok (.iconst 0, 1) := by decide +kernel
theorem dX9_become_6 : decode cX9_become 6 = .ok (.istore_n 2, 1) := by decide +kernel
theorem dX9_become_7 : decode cX9_become 7 = .ok (.iload_n 2, 1) := by decide +kernel
theorem dX9_become_8 : decode cX9_become 8 = .ok (.aload_n 1, 1) := by decide +kernel
theorem dX9_become_9 : decode cX9_become 9 = .ok (.getfield 15, 3) := by decide +kernel
theorem dX9_become_12 : decode cX9_become 12 = .ok (.if_icmp .ge 49, 3) := by decide +kernel
theorem dX9_become_15 : decode cX9_become 15 = .ok (.iload_n 2, 1) := by decide +kernel
theorem dX9_become_16 : decode cX9_become 16 = .ok (.aload_n 1, 1) := by decide +kernel
theorem dX9_become_17 : decode cX9_become 17 = .ok (.getfield 9, 3) := by decide +kernel
theorem dX9_become_20 : decode cX9_become 20 = .ok (.arraylength, 1) := by decide +kernel
theorem dX9_become_21 : decode cX9_become 21 = .ok (.if_icmp .ge 40, 3) := by decide +kernel
theorem dX9_become_24 : decode cX9_become 24 = .ok (.iload_n 2, 1) := by decide +kernel
theorem dX9_become_25 : decode cX9_become 25 = .ok (.aload_n 0, 1) := by decide +kernel
theorem dX9_become_26 : decode cX9_become 26 = .ok (.getfield 9, 3) := by decide +kernel
theorem dX9_become_29 : decode cX9_become 29 = .ok (.arraylength, 1) := by decide +kernel
theorem dX9_become_30 : decode cX9_become 30 = .ok (.if_icmp .ge 31, 3) := by decide +kernel
theorem dX9_become_33 : decode cX9_become 33 = .ok (.aload_n 0, 1) := by decide +kernel
theorem dX9_become_34 : decode cX9_become 34 = .ok (.getfield 9, 3) := by decide +kernel
theorem dX9_become_37 : decode cX9_become 37 = .ok (.iload_n 2, 1) := by decide +kernel
theorem dX9_become_38 : decode cX9_become 38 = .ok (.aload_n 1, 1) := by decide +kernel
theorem dX9_become_39 : decode cX9_become 39 = .ok (.getfield 9, 3) := by decide +kernel
theorem dX9_become_42 : decode cX9_become 42 = .ok (.iload_n 2, 1) := by decide +kernel
theorem dX9_become_43 : decode cX9_become 43 = .ok (.iaload, 1) := by decide +kernel
theorem dX9_become_44 : decode cX9_become 44 = .ok (.iastore, 1) := by decide +kernel
theorem dX9_become_45 : decode cX9_become 45 = .ok (.aload_n 0, 1) := by decide +kernel
theorem dX9_become_46 : decode cX9_become 46 = .ok (.dup, 1) := by decide +kernel
theorem dX9_become_47 : decode cX9_become 47 = .ok (.getfield 15, 3) := by decide +kernel
theorem dX9_become_50 : decode cX9_become 50 = .ok (.iconst 1, 1) := by decide +kernel
theorem dX9_become_51 : decode cX9_become 51 = .ok (.iadd, 1) := by decide +kernel
theorem dX9_become_52 : decode cX9_become 52 = .ok (.putfield 15, 3) := by decide +kernel
theorem dX9_become_55 : decode cX9_become 55 = .ok (.iinc 2 1, 3) := by decide +kernel
theorem dX9_become_58 : decode cX9_become 58 = .ok (.goto (-51), 3) := by decide +kernel
theorem dX9_become_61 : decode cX9_become 61 = .ok (.return_, 1) := by decide +kernel
theorem dX9_removeAt_0 : decode cX9_removeAt 0 = .ok (.aload_n 0, 1) := by decide +kernel
theorem dX9_removeAt_1 : decode cX9_removeAt 1 = .ok (.iload_n 1, 1) := by decide +kernel
theorem dX9_removeAt_2 : decode cX9_removeAt 2 = .ok (.invokevirtual 27, 3) := by decide +kernel
theorem dX9_removeAt_5 : decode cX9_removeAt 5 = .ok (.ifCond .ne 4, 3) := by decide +kernel
theorem dX9_removeAt_8 : decode cX9_removeAt 8 = .ok (.return_, 1) := by decide +kernel
theorem dX9_removeAt_9 : decode cX9_removeAt 9 = .ok (.iload_n 1, 1) := by decide +kernel
theorem dX9_removeAt_10 : decode cX9_removeAt 10 = .ok (.iconst 1, 1) := by decide +kernel
theorem dX9_removeAt_11 : decode cX9_removeAt 11 = .ok (.iadd, 1) := by decide +kernel
theorem dX9_removeAt_12 : decode cX9_removeAt 12 = .ok (.istore_n 2, 1) := by decide +kernel
theorem dX9_removeAt_13 : decode cX9_removeAt 13 = .ok (.iload_n 2, 1) := by decide +kernel
theorem dX9_removeAt_14 : decode cX9_removeAt 14 = .ok (.aload_n 0, 1) := by decide +kernel
theorem dX9_removeAt_15 : decode cX9_removeAt 15 = .ok (.getfield 15, 3) := by decide +kernel
theorem dX9_removeAt_18 : decode cX9_removeAt 18 = .ok (.if_icmp .ge 32, 3) := by decide +kernel
theorem dX9_removeAt_21 : decode cX9_removeAt 21 = .ok (.iload_n 2, 1) := by decide +kernel
theorem dX9_removeAt_22 : decode cX9_removeAt 22 = .ok (.aload_n 0, 1) := by decide +kernel
theorem dX9_removeAt_23 : decode cX9_removeAt 23 = .ok (.getfield 9, 3) := by decide +kernel
theorem dX9_removeAt_26 : decode cX9_removeAt 26 = .ok (.arraylength, 1) := by decide +kernel
theorem dX9_removeAt_27 : decode cX9_removeAt 27 = .ok (.if_icmp .ge 23, 3) := by decide +kernel
theorem dX9_removeAt_30 : decode cX9_removeAt 30 = .ok (.aload_n 0, 1) := by decide +kernel
theorem dX9_removeAt_31 : decode cX9_removeAt 31 = .ok (.getfield 9, 3) := by decide +kernel
theorem dX9_removeAt_34 : decode cX9_removeAt 34 = .ok (.iload_n 2, 1) := by decide +kernel
theorem dX9_removeAt_35 : decode cX9_removeAt 35 = .ok (.iconst 1, 1) := by decide +kernel
theorem dX9_removeAt_36 : decode cX9_removeAt 36 = .ok (.isub, 1) := by decide +kernel
theorem dX9_removeAt_37 : decode cX9_removeAt 37 = .ok (.aload_n 0, 1) := by decide +kernel
theorem dX9_removeAt_38 : decode cX9_removeAt 38 = .ok (.getfield 9, 3) := by decide +kernel
theorem dX9_removeAt_41 : decode cX9_removeAt 41 = .ok (.iload_n 2, 1) := by decide +kernel
theorem dX9_removeAt_42 : decode cX9_removeAt 42 = .ok (.iaload, 1) := by decide +kernel
theorem dX9_removeAt_43 : decode cX9_removeAt 43 = .ok (.iastore, 1) := by decide +kernel
theorem dX9_removeAt_44 : decode cX9_removeAt 44 = .ok (.iinc 2 1, 3) := by decide +kernel
theorem dX9_removeAt_47 : decode cX9_removeAt 47 = .ok (.goto (-34), 3) := by decide +kernel
theorem dX9_removeAt_50 : decode cX9_removeAt 50 = .ok (.aload_n 0, 1) := by decide +kernel
theorem dX9_removeAt_51 : decode cX9_removeAt 51 = .ok (.dup, 1) := by decide +kernel
theorem dX9_removeAt_52 : decode cX9_removeAt 52 = .ok (.getfield 15, 3) := by decide +kernel
theorem dX9_removeAt_55 : decode cX9_removeAt 55 = .ok (.iconst 1, 1) := by decide +kernel
theorem dX9_removeAt_56 : decode cX9_removeAt 56 = .ok (.isub, 1) := by decide +kernel
theorem dX9_removeAt_57 : decode cX9_removeAt 57 = .ok (.putfield 15, 3) := by decide +kernel
theorem dX9_removeAt_60 : decode cX9_removeAt 60 = .ok (.return_, 1) := by decide +kernel
theorem dX9_turnAbout_0 : decode cX9_turnAbout 0 = .ok (.iconst 0, 1) := by decide +kernel
theorem dX9_turnAbout_1 : decode cX9_turnAbout 1 = .ok (.istore_n 1, 1) := by decide +kernel
theorem dX9_turnAbout_2 : decode cX9_turnAbout 2 = .ok (.iload_n 1, 1) := by decide +kernel
theorem dX9_turnAbout_3 : decode cX9_turnAbout 3 = .ok (.aload_n 0, 1) := by decide +kernel
theorem dX9_turnAbout_4 : decode cX9_turnAbout 4 = .ok (.getfield 15, 3) := by decide +kernel
theorem dX9_turnAbout_7 : decode cX9_turnAbout 7 = .ok (.iconst 2, 1) := by decide +kernel
theorem dX9_turnAbout_8 : decode cX9_turnAbout 8 = .ok (.idiv, 1) := by decide +kernel
theorem dX9_turnAbout_9 : decode cX9_turnAbout 9 = .ok (.if_icmp .ge 60, 3) := by decide +kernel
theorem dX9_turnAbout_12 : decode cX9_turnAbout 12 = .ok (.aload_n 0, 1) := by decide +kernel
theorem dX9_turnAbout_13 : decode cX9_turnAbout 13 = .ok (.getfield 15, 3) := by decide +kernel
theorem dX9_turnAbout_16 : decode cX9_turnAbout 16 = .ok (.iconst 1, 1) := by decide +kernel
theorem dX9_turnAbout_17 : decode cX9_turnAbout 17 = .ok (.isub, 1) := by decide +kernel
theorem dX9_turnAbout_18 : decode cX9_turnAbout 18 = .ok (.iload_n 1, 1) := by decide +kernel
theorem dX9_turnAbout_19 : decode cX9_turnAbout 19 = .ok (.isub, 1) := by decide +kernel
theorem dX9_turnAbout_20 : decode cX9_turnAbout 20 = .ok (.istore_n 2, 1) := by decide +kernel
theorem dX9_turnAbout_21 : decode cX9_turnAbout 21 = .ok (.aload_n 0, 1) := by decide +kernel
theorem dX9_turnAbout_22 : decode cX9_turnAbout 22 = .ok (.iload_n 1, 1) := by decide +kernel
theorem dX9_turnAbout_23 : decode cX9_turnAbout 23 = .ok (.invokevirtual 27, 3) := by decide +kernel
theorem dX9_turnAbout_26 : decode cX9_turnAbout 26 = .ok (.ifCond .eq 37, 3) := by decide +kernel
theorem dX9_turnAbout_29 : decode cX9_turnAbout 29 = .ok (.aload_n 0, 1) := by decide +kernel
theorem dX9_turnAbout_30 : decode cX9_turnAbout 30 = .ok (.iload_n 2, 1) := by decide +kernel
theorem dX9_turnAbout_31 : decode cX9_turnAbout 31 = .ok (.invokevirtual 27, 3) := by decide +kernel
theorem dX9_turnAbout_34 : decode cX9_turnAbout 34 = .ok (.ifCond .eq 29, 3) := by decide +kernel
theorem dX9_turnAbout_37 : decode cX9_turnAbout 37 = .ok (.aload_n 0, 1) := by decide +kernel
theorem dX9_turnAbout_38 : decode cX9_turnAbout 38 = .ok (.getfield 9, 3) := by decide +kernel
theorem dX9_turnAbout_41 : decode cX9_turnAbout 41 = .ok (.iload_n 1, 1) := by decide +kernel
theorem dX9_turnAbout_42 : decode cX9_turnAbout 42 = .ok (.iaload, 1) := by decide +kernel
theorem dX9_turnAbout_43 : decode cX9_turnAbout 43 = .ok (.istore_n 3, 1) := by decide +kernel
theorem dX9_turnAbout_44 : decode cX9_turnAbout 44 = .ok (.aload_n 0, 1) := by decide +kernel
theorem dX9_turnAbout_45 : decode cX9_turnAbout 45 = .ok (.getfield 9, 3) := by decide +kernel
theorem dX9_turnAbout_48 : decode cX9_turnAbout 48 = .ok (.iload_n 1, 1) := by decide +kernel
theorem dX9_turnAbout_49 : decode cX9_turnAbout 49 = .ok (.aload_n 0, 1) := by decide +kernel
theorem dX9_turnAbout_50 : decode cX9_turnAbout 50 = .ok (.getfield 9, 3) := by decide +kernel
theorem dX9_turnAbout_53 : decode cX9_turnAbout 53 = .ok (.iload_n 2, 1) := by decide +kernel
theorem dX9_turnAbout_54 : decode cX9_turnAbout 54 = .ok (.iaload, 1) := by decide +kernel
theorem dX9_turnAbout_55 : decode cX9_turnAbout 55 = .ok (.iastore, 1) := by decide +kernel
theorem dX9_turnAbout_56 : decode cX9_turnAbout 56 = .ok (.aload_n 0, 1) := by decide +kernel
theorem dX9_turnAbout_57 : decode cX9_turnAbout 57 = .ok (.getfield 9, 3) := by decide +kernel
theorem dX9_turnAbout_60 : decode cX9_turnAbout 60 = .ok (.iload_n 2, 1) := by decide +kernel
theorem dX9_turnAbout_61 : decode cX9_turnAbout 61 = .ok (.iload_n 3, 1) := by decide +kernel
theorem dX9_turnAbout_62 : decode cX9_turnAbout 62 = .ok (.iastore, 1) := by decide +kernel
theorem dX9_turnAbout_63 : decode cX9_turnAbout 63 = .ok (.iinc 1 1, 3) := by decide +kernel
theorem dX9_turnAbout_66 : decode cX9_turnAbout 66 = .ok (.goto (-64), 3) := by decide +kernel
theorem dX9_turnAbout_69 : decode cX9_turnAbout 69 = .ok (.return_, 1) := by decide +kernel
theorem dX9_howMany_0 : decode cX9_howMany 0 = .ok (.iconst 0, 1) := by decide +kernel
theorem dX9_howMany_1 : decode cX9_howMany 1 = .ok (.istore_n 2, 1) := by decide +kernel
theorem dX9_howMany_2 : decode cX9_howMany 2 = .ok (.iconst 0, 1) := by decide +kernel
theorem dX9_howMany_3 : decode cX9_howMany 3 = .ok (.istore_n 3, 1) := by decide +kernel
theorem dX9_howMany_4 : decode cX9_howMany 4 = .ok (.iload_n 3, 1) := by decide +kernel
theorem dX9_howMany_5 : decode cX9_howMany 5 = .ok (.aload_n 0, 1) := by decide +kernel
theorem dX9_howMany_6 : decode cX9_howMany 6 = .ok (.getfield 15, 3) := by decide +kernel
theorem dX9_howMany_9 : decode cX9_howMany 9 = .ok (.if_icmp .ge 21, 3) := by decide +kernel
theorem dX9_howMany_12 : decode cX9_howMany 12 = .ok (.aload_n 0, 1) := by decide +kernel
theorem dX9_howMany_13 : decode cX9_howMany 13 = .ok (.iload_n 3, 1) := by decide +kernel
theorem dX9_howMany_14 : decode cX9_howMany 14 = .ok (.invokevirtual 19, 3) := by decide +kernel
theorem dX9_howMany_17 : decode cX9_howMany 17 = .ok (.iload_n 1, 1) := by decide +kernel
theorem dX9_howMany_18 : decode cX9_howMany 18 = .ok (.if_icmp .ne 6, 3) := by decide +kernel
theorem dX9_howMany_21 : decode cX9_howMany 21 = .ok (.iinc 2 1, 3) := by decide +kernel
theorem dX9_howMany_24 : decode cX9_howMany 24 = .ok (.iinc 3 1, 3) := by decide +kernel
theorem dX9_howMany_27 : decode cX9_howMany 27 = .ok (.goto (-23), 3) := by decide +kernel
theorem dX9_howMany_30 : decode cX9_howMany 30 = .ok (.iload_n 2, 1) := by decide +kernel
theorem dX9_howMany_31 : decode cX9_howMany 31 = .ok (.ireturn, 1) := by decide +kernel
theorem dX9_bits_0 : decode cX9_bits 0 = .ok (.iconst 0, 1) := by decide +kernel
theorem dX9_bits_1 : decode cX9_bits 1 = .ok (.istore_n 1, 1) := by decide +kernel
theorem dX9_bits_2 : decode cX9_bits 2 = .ok (.iconst 0, 1) := by decide +kernel
theorem dX9_bits_3 : decode cX9_bits 3 = .ok (.istore_n 2, 1) := by decide +kernel
theorem dX9_bits_4 : decode cX9_bits 4 = .ok (.iload_n 2, 1) := by decide +kernel
theorem dX9_bits_5 : decode cX9_bits 5 = .ok (.aload_n 0, 1) := by decide +kernel
theorem dX9_bits_6 : decode cX9_bits 6 = .ok (.getfield 15, 3) := by decide +kernel
theorem dX9_bits_9 : decode cX9_bits 9 = .ok (.if_icmp .ge 19, 3) := by decide +kernel
theorem dX9_bits_12 : decode cX9_bits 12 = .ok (.iload_n 1, 1) := by decide +kernel
theorem dX9_bits_13 : decode cX9_bits 13 = .ok (.iconst 1, 1) := by decide +kernel
theorem dX9_bits_14 : decode cX9_bits 14 = .ok (.aload_n 0, 1) := by decide +kernel
theorem dX9_bits_15 : decode cX9_bits 15 = .ok (.iload_n 2, 1) := by decide +kernel
theorem dX9_bits_16 : decode cX9_bits 16 = .ok (.invokevirtual 19, 3) := by decide +kernel
theorem dX9_bits_19 : decode cX9_bits 19 = .ok (.ishl, 1) := by decide +kernel
theorem dX9_bits_20 : decode cX9_bits 20 = .ok (.ior, 1) := by decide +kernel
theorem dX9_bits_21 : decode cX9_bits 21 = .ok (.istore_n 1, 1) := by decide +kernel
theorem dX9_bits_22 : decode cX9_bits 22 = .ok (.iinc 2 1, 3) := by decide +kernel
theorem dX9_bits_25 : decode cX9_bits 25 = .ok (.goto (-21), 3) := by decide +kernel
theorem dX9_bits_28 : decode cX9_bits 28 = .ok (.iload_n 1, 1) := by decide +kernel
theorem dX9_bits_29 : decode cX9_bits 29 = .ok (.ireturn, 1) := by decide +kernel
theorem dX10_init_0 : decode cX10_init 0 = .ok (.aload_n 0, 1) := by decide +kernel
theorem dX10_init_1 : decode cX10_init 1 = .ok (.invokespecial 3, 3) := by decide +kernel
theorem dX10_init_4 : decode cX10_init 4 = .ok (.aload_n 0, 1) := by decide +kernel
theorem dX10_init_5 : decode cX10_init 5 = .ok (.sipush 160, 3) := by decide +kernel
theorem dX10_init_8 : decode cX10_init 8 = .ok (.newarray .int, 2) := by decide +kernel
theorem dX10_init_10 : decode cX10_init 10 = .ok (.putfield 9, 3) := by decide +kernel
theorem dX10_init_13 : decode cX10_init 13 = .ok (.aload_n 0, 1) := by decide +kernel
theorem dX10_init_14 : decode cX10_init 14 = .ok (.iconst 0, 1) := by decide +kernel
theorem dX10_init_15 : decode cX10_init 15 = .ok (.putfield 15, 3) := by decide +kernel
theorem dX10_init_18 : decode cX10_init 18 = .ok (.aload_n 0, 1) := by decide +kernel
theorem dX10_init_19 : decode cX10_init 19 = .ok (.iconst 0, 1) := by decide +kernel
theorem dX10_init_20 : decode cX10_init 20 = .ok (.putfield 19, 3) := by decide +kernel
theorem dX10_init_23 : decode cX10_init 23 = .ok (.aload_n 0, 1) := by decide +kernel
theorem dX10_init_24 : decode cX10_init 24 = .ok (.iconst 0, 1) := by decide +kernel
theorem dX10_init_25 : decode cX10_init 25 = .ok (.putfield 22, 3) := by decide +kernel
theorem dX10_init_28 : decode cX10_init 28 = .ok (.return_, 1) := by decide +kernel
theorem dX10_size_0 : decode cX10_size 0 = .ok (.aload_n 0, 1) := by decide +kernel
theorem dX10_size_1 : decode cX10_size 1 = .ok (.getfield 15, 3) := by decide +kernel
theorem dX10_size_4 : decode cX10_size 4 = .ok (.ireturn, 1) := by decide +kernel
theorem dX10_wipe_0 : decode cX10_wipe 0 = .ok (.aload_n 0, 1) := by decide +kernel
theorem dX10_wipe_1 : decode cX10_wipe 1 = .ok (.iconst 0, 1) := by decide +kernel
theorem dX10_wipe_2 : decode cX10_wipe 2 = .ok (.putfield 15, 3) := by decide +kernel
theorem dX10_wipe_5 : decode cX10_wipe 5 = .ok (.return_, 1) := by decide +kernel
theorem dX10_push_0 : decode cX10_push 0 = .ok (.aload_n 0, 1) := by decide +kernel
theorem dX10_push_1 : decode cX10_push 1 = .ok (.getfield 15, 3) := by decide +kernel
theorem dX10_push_4 : decode cX10_push 4 = .ok (.ifCond .lt 35, 3) := by decide +kernel
theorem dX10_push_7 : decode cX10_push 7 = .ok (.aload_n 0, 1) := by decide +kernel
theorem dX10_push_8 : decode cX10_push 8 = .ok (.getfield 15, 3) := by decide +kernel
theorem dX10_push_11 : decode cX10_push 11 = .ok (.aload_n 0, 1) := by decide +kernel
theorem dX10_push_12 : decode cX10_push 12 = .ok (.getfield 9, 3) := by decide +kernel
theorem dX10_push_15 : decode cX10_push 15 = .ok (.arraylength, 1) := by decide +kernel
theorem dX10_push_16 : decode cX10_push 16 = .ok (.if_icmp .ge 23, 3) := by decide +kernel
theorem dX10_push_19 : decode cX10_push 19 = .ok (.aload_n 0, 1) := by decide +kernel
theorem dX10_push_20 : decode cX10_push 20 = .ok (.getfield 9, 3) := by decide +kernel
theorem dX10_push_23 : decode cX10_push 23 = .ok (.aload_n 0, 1) := by decide +kernel
theorem dX10_push_24 : decode cX10_push 24 = .ok (.getfield 15, 3) := by decide +kernel
theorem dX10_push_27 : decode cX10_push 27 = .ok (.iload_n 1, 1) := by decide +kernel
theorem dX10_push_28 : decode cX10_push 28 = .ok (.iastore, 1) := by decide +kernel
theorem dX10_push_29 : decode cX10_push 29 = .ok (.aload_n 0, 1) := by decide +kernel
theorem dX10_push_30 : decode cX10_push 30 = .ok (.dup, 1) := by decide +kernel
theorem dX10_push_31 : decode cX10_push 31 = .ok (.getfield 15, 3) := by decide +kernel
theorem dX10_push_34 : decode cX10_push 34 = .ok (.iconst 1, 1) := by decide +kernel
theorem dX10_push_35 : decode cX10_push 35 = .ok (.iadd, 1) := by decide +kernel
theorem dX10_push_36 : decode cX10_push 36 = .ok (.putfield 15, 3) := by decide +kernel
theorem dX10_push_39 : decode cX10_push 39 = .ok (.return_, 1) := by decide +kernel
theorem dX10_byteAt_0 : decode cX10_byteAt 0 = .ok (.iload_n 1, 1) := by decide +kernel
theorem dX10_byteAt_1 : decode cX10_byteAt 1 = .ok (.ifCond .lt 29, 3) := by decide +kernel
theorem dX10_byteAt_4 : decode cX10_byteAt 4 = .ok (.iload_n 1, 1) := by decide +kernel
theorem dX10_byteAt_5 : decode cX10_byteAt 5 = .ok (.aload_n 0, 1) := by decide +kernel
theorem dX10_byteAt_6 : decode cX10_byteAt 6 = .ok (.getfield 15, 3) := by decide +kernel
theorem dX10_byteAt_9 : decode cX10_byteAt 9 = .ok (.if_icmp .ge 21, 3) := by decide +kernel
theorem dX10_byteAt_12 : decode cX10_byteAt 12 = .ok (.iload_n 1, 1) := by decide +kernel
theorem dX10_byteAt_13 : decode cX10_byteAt 13 = .ok (.aload_n 0, 1) := by decide +kernel
theorem dX10_byteAt_14 : decode cX10_byteAt 14 = .ok (.getfield 9, 3) := by decide +kernel
theorem dX10_byteAt_17 : decode cX10_byteAt 17 = .ok (.arraylength, 1) := by decide +kernel
theorem dX10_byteAt_18 : decode cX10_byteAt 18 = .ok (.if_icmp .ge 12, 3) := by decide +kernel
theorem dX10_byteAt_21 : decode cX10_byteAt 21 = .ok (.aload_n 0, 1) := by decide +kernel
theorem dX10_byteAt_22 : decode cX10_byteAt 22 = .ok (.getfield 9, 3) := by decide +kernel
theorem dX10_byteAt_25 : decode cX10_byteAt 25 = .ok (.iload_n 1, 1) := by decide +kernel
theorem dX10_byteAt_26 : decode cX10_byteAt 26 = .ok (.iaload, 1) := by decide +kernel
theorem dX10_byteAt_27 : decode cX10_byteAt 27 = .ok (.goto 4, 3) := by decide +kernel
theorem dX10_byteAt_30 : decode cX10_byteAt 30 = .ok (.iconst (-1), 1) := by decide +kernel
theorem dX10_byteAt_31 : decode cX10_byteAt 31 = .ok (.ireturn, 1) := by decide +kernel
theorem dX10_letterAt_0 : decode cX10_letterAt 0 = .ok (.aload_n 0, 1) := by decide +kernel
theorem dX10_letterAt_1 : decode cX10_letterAt 1 = .ok (.iload_n 1, 1) := by decide +kernel
theorem dX10_letterAt_2 : decode cX10_letterAt 2 = .ok (.invokevirtual 25, 3) := by decide +kernel
theorem dX10_letterAt_5 : decode cX10_letterAt 5 = .ok (.bipush 97, 2) := by decide +kernel
theorem dX10_letterAt_7 : decode cX10_letterAt 7 = .ok (.isub, 1) := by decide +kernel
theorem dX10_letterAt_8 : decode cX10_letterAt 8 = .ok (.ireturn, 1) := by decide +kernel
theorem dX10_isSmall_0 : decode cX10_isSmall 0 = .ok (.aload_n 0, 1) := by decide +kernel
theorem dX10_isSmall_1 : decode cX10_isSmall 1 = .ok (.iload_n 1, 1) := by decide +kernel
theorem dX10_isSmall_2 : decode cX10_isSmall 2 = .ok (.invokevirtual 25, 3) := by decide +kernel
theorem dX10_isSmall_5 : decode cX10_isSmall 5 = .ok (.bipush 97, 2) := by decide +kernel
theorem dX10_isSmall_7 : decode cX10_isSmall 7 = .ok (.if_icmp .lt 17, 3) := by decide +kernel
theorem dX10_isSmall_10 : decode cX10_isSmall 10 = .ok (.aload_n 0, 1) := by decide +kernel
theorem dX10_isSmall_11 : decode cX10_isSmall 11 = .ok (.iload_n 1, 1) := by decide +kernel
theorem dX10_isSmall_12 : decode cX10_isSmall 12 = .ok (.invokevirtual 25, 3) := by decide +kernel
theorem dX10_isSmall_15 : decode cX10_isSmall 15 = .ok (.bipush 122, 2) := by decide +kernel
theorem dX10_isSmall_17 : decode cX10_isSmall 17 = .ok (.if_icmp .gt 7, 3) := by decide +kernel
theorem dX10_isSmall_20 : decode cX10_isSmall 20 = .ok (.iconst 1, 1) := by decide +kernel
theorem dX10_isSmall_21 : decode cX10_isSmall 21 = .ok (.goto 4, 3) := by decide +kernel
theorem dX10_isSmall_24 : decode cX10_isSmall 24 = .ok (.iconst 0, 1) := by decide +kernel
theorem dX10_isSmall_25 : decode cX10_isSmall 25 = .ok (.ireturn, 1) := by decide +kernel
theorem dX10_isDigit_0 : decode cX10_isDigit 0 = .ok (.aload_n 0, 1) := by decide +kernel
theorem dX10_isDigit_1 : decode cX10_isDigit 1 = .ok (.iload_n 1, 1) := by decide +kernel
theorem dX10_isDigit_2 : decode cX10_isDigit 2 = .ok (.invokevirtual 25, 3) := by decide +kernel
theorem dX10_isDigit_5 : decode cX10_isDigit 5 = .ok (.bipush 48, 2) := by decide +kernel
theorem dX10_isDigit_7 : decode cX10_isDigit 7 = .ok (.if_icmp .lt 17, 3) := by decide +kernel
theorem dX10_isDigit_10 : decode cX10_isDigit 10 = .ok (.aload_n 0, 1) := by decide +kernel
theorem dX10_isDigit_11 : decode cX10_isDigit 11 = .ok (.iload_n 1, 1) := by decide +kernel
theorem dX10_isDigit_12 : decode cX10_isDigit 12 = .ok (.invokevirtual 25, 3) := by decide +kernel
theorem dX10_isDigit_15 : decode cX10_isDigit 15 = .ok (.bipush 57, 2) := by decide +kernel
theorem dX10_isDigit_17 : decode cX10_isDigit 17 = .ok (.if_icmp .gt 7, 3) := by decide +kernel
theorem dX10_isDigit_20 : decode cX10_isDigit 20 = .ok (.iconst 1, 1) := by decide +kernel
theorem dX10_isDigit_21 : decode cX10_isDigit 21 = .ok (.goto 4, 3) := by decide +kernel
theorem dX10_isDigit_24 : decode cX10_isDigit 24 = .ok (.iconst 0, 1) := by decide +kernel
theorem dX10_isDigit_25 : decode cX10_isDigit 25 = .ok (.ireturn, 1) := by decide +kernel
theorem dX10_rewind_0 : decode cX10_rewind 0 = .ok (.aload_n 0, 1) := by decide +kernel
theorem dX10_rewind_1 : decode cX10_rewind 1 = .ok (.iconst 0, 1) := by decide +kernel
theorem dX10_rewind_2 : decode cX10_rewind 2 = .ok (.putfield 19, 3) := by decide +kernel
theorem dX10_rewind_5 : decode cX10_rewind 5 = .ok (.aload_n 0, 1) := by decide +kernel
theorem dX10_rewind_6 : decode cX10_rewind 6 = .ok (.iconst 0, 1) := by decide +kernel
theorem dX10_rewind_7 : decode cX10_rewind 7 = .ok (.putfield 22, 3) := by decide +kernel
theorem dX10_rewind_10 : decode cX10_rewind 10 = .ok (.return_, 1) := by decide +kernel
theorem dX10_step_0 : decode cX10_step 0 = .ok (.aload_n 0, 1) := by decide +kernel
theorem dX10_step_1 : decode cX10_step 1 = .ok (.aload_n 0, 1) := by decide +kernel
theorem dX10_step_2 : decode cX10_step 2 = .ok (.getfield 22, 3) := by decide +kernel
theorem dX10_step_5 : decode cX10_step 5 = .ok (.putfield 19, 3) := by decide +kernel
theorem dX10_step_8 : decode cX10_step 8 = .ok (.aload_n 0, 1) := by decide +kernel
theorem dX10_step_9 : decode cX10_step 9 = .ok (.getfield 19, 3) := by decide +kernel
theorem dX10_step_12 : decode cX10_step 12 = .ok (.aload_n 0, 1) := by decide +kernel
theorem dX10_step_13 : decode cX10_step 13 = .ok (.getfield 15, 3) := by decide +kernel
theorem dX10_step_16 : decode cX10_step 16 = .ok (.if_icmp .ge 29, 3) := by decide +kernel
theorem dX10_step_19 : decode cX10_step 19 = .ok (.aload_n 0, 1) := by decide +kernel
theorem dX10_step_20 : decode cX10_step 20 = .ok (.aload_n 0, 1) := by decide +kernel
theorem dX10_step_21 : decode cX10_step 21 = .ok (.getfield 19, 3) := by decide +kernel
theorem dX10_step_24 : decode cX10_step 24 = .ok (.invokevirtual 25, 3) := by decide +kernel
theorem dX10_step_27 : decode cX10_step 27 = .ok (.bipush 32, 2) := by decide +kernel
theorem dX10_step_29 : decode cX10_step 29 = .ok (.if_icmp .ne 16, 3) := by decide +kernel
theorem dX10_step_32 : decode cX10_step 32 = .ok (.aload_n 0, 1) := by decide +kernel
theorem dX10_step_33 : decode cX10_step 33 = .ok (.dup, 1) := by decide +kernel
theorem dX10_step_34 : decode cX10_step 34 = .ok (.getfield 19, 3) := by decide +kernel
theorem dX10_step_37 : decode cX10_step 37 = .ok (.iconst 1, 1) := by decide +kernel
theorem dX10_step_38 : decode cX10_step 38 = .ok (.iadd, 1) := by decide +kernel
theorem dX10_step_39 : decode cX10_step 39 = .ok (.putfield 19, 3) := by decide +kernel
theorem dX10_step_42 : decode cX10_step 42 = .ok (.goto (-34), 3) := by decide +kernel
theorem dX10_step_45 : decode cX10_step 45 = .ok (.aload_n 0, 1) := by decide +kernel
theorem dX10_step_46 : decode cX10_step 46 = .ok (.aload_n 0, 1) := by decide +kernel
theorem dX10_step_47 : decode cX10_step 47 = .ok (.getfield 19, 3) := by decide +kernel
theorem dX10_step_50 : decode cX10_step 50 = .ok (.putfield 22, 3) := by decide +kernel
theorem dX10_step_53 : decode cX10_step 53 = .ok (.aload_n 0, 1) := by decide +kernel
theorem dX10_step_54 : decode cX10_step 54 = .ok (.aload_n 0, 1) := by decide +kernel
theorem dX10_step_55 : decode cX10_step 55 = .ok (.getfield 19, 3) := by decide +kernel
theorem dX10_step_58 : decode cX10_step 58 = .ok (.invokevirtual 29, 3) := by decide +kernel
theorem dX10_step_61 : decode cX10_step 61 = .ok (.ifCond .eq 38, 3) := by decide +kernel
theorem dX10_step_64 : decode cX10_step 64 = .ok (.aload_n 0, 1) := by decide +kernel
theorem dX10_step_65 : decode cX10_step 65 = .ok (.getfield 22, 3) := by decide +kernel
theorem dX10_step_68 : decode cX10_step 68 = .ok (.aload_n 0, 1) := by decide +kernel
theorem dX10_step_69 : decode cX10_step 69 = .ok (.getfield 15, 3) := by decide +kernel
theorem dX10_step_72 : decode cX10_step 72 = .ok (.if_icmp .ge 94, 3) := by decide +kernel
theorem dX10_step_75 : decode cX10_step 75 = .ok (.aload_n 0, 1) := by decide +kernel
theorem dX10_step_76 : decode cX10_step 76 = .ok (.aload_n 0, 1) := by decide +kernel
theorem dX10_step_77 : decode cX10_step 77 = .ok (.getfield 22, 3) := by decide +kernel
theorem dX10_step_80 : decode cX10_step 80 = .ok (.invokevirtual 29, 3) := by decide +kernel
theorem dX10_step_83 : decode cX10_step 83 = .ok (.ifCond .eq 83, 3) := by decide +kernel
theorem dX10_step_86 : decode cX10_step 86 = .ok (.aload_n 0, 1) := by decide +kernel
theorem dX10_step_87 : decode cX10_step 87 = .ok (.dup, 1) := by decide +kernel
theorem dX10_step_88 : decode cX10_step 88 = .ok (.getfield 22, 3) := by decide +kernel
theorem dX10_step_91 : decode cX10_step 91 = .ok (.iconst 1, 1) := by decide +kernel
theorem dX10_step_92 : decode cX10_step 92 = .ok (.iadd, 1) := by decide +kernel
theorem dX10_step_93 : decode cX10_step 93 = .ok (.putfield 22, 3) := by decide +kernel
theorem dX10_step_96 : decode cX10_step 96 = .ok (.goto (-32), 3) := by decide +kernel
theorem dX10_step_99 : decode cX10_step 99 = .ok (.aload_n 0, 1) := by decide +kernel
theorem dX10_step_100 : decode cX10_step 100 = .ok (.aload_n 0, 1) := by decide +kernel
theorem dX10_step_101 : decode cX10_step 101 = .ok (.getfield 19, 3) := by decide +kernel
theorem dX10_step_104 : decode cX10_step 104 = .ok (.invokevirtual 33, 3) := by decide +kernel
theorem dX10_step_107 : decode cX10_step 107 = .ok (.ifCond .eq 38, 3) := by decide +kernel
theorem dX10_step_110 : decode cX10_step 110 = .ok (.aload_n 0, 1) := by decide +kernel
theorem dX10_step_111 : decode cX10_step 111 = .ok (.getfield 22, 3) := by decide +kernel
theorem dX10_step_114 : decode cX10_step 114 = .ok (.aload_n 0, 1) := by decide +kernel
theorem dX10_step_115 : decode cX10_step 115 = .ok (.getfield 15, 3) := by decide +kernel
theorem dX10_step_118 : decode cX10_step 118 = .ok (.if_icmp .ge 48, 3) := by decide +kernel
theorem dX10_step_121 : decode cX10_step 121 = .ok (.aload_n 0, 1) := by decide +kernel
theorem dX10_step_122 : decode cX10_step 122 = .ok (.aload_n 0, 1) := by decide +kernel
theorem dX10_step_123 : decode cX10_step 123 = .ok (.getfield 22, 3) := by decide +kernel
theorem dX10_step_126 : decode cX10_step 126 = .ok (.invokevirtual 33, 3) := by decide +kernel
theorem dX10_step_129 : decode cX10_step 129 = .ok (.ifCond .eq 37, 3) := by decide +kernel
theorem dX10_step_132 : decode cX10_step 132 = .ok (.aload_n 0, 1) := by decide +kernel
theorem dX10_step_133 : decode cX10_step 133 = .ok (.dup, 1) := by decide +kernel
theorem dX10_step_134 : decode cX10_step 134 = .ok (.getfield 22, 3) := by decide +kernel
theorem dX10_step_137 : decode cX10_step 137 = .ok (.iconst 1, 1) := by decide +kernel
theorem dX10_step_138 : decode cX10_step 138 = .ok (.iadd, 1) := by decide +kernel
theorem dX10_step_139 : decode cX10_step 139 = .ok (.putfield 22, 3) := by decide +kernel
theorem dX10_step_142 : decode cX10_step 142 = .ok (.goto (-32), 3) := by decide +kernel
theorem dX10_step_145 : decode cX10_step 145 = .ok (.aload_n 0, 1) := by decide +kernel
theorem dX10_step_146 : decode cX10_step 146 = .ok (.getfield 19, 3) := by decide +kernel
theorem dX10_step_149 : decode cX10_step 149 = .ok (.aload_n 0, 1) := by decide +kernel
theorem dX10_step_150 : decode cX10_step 150 = .ok (.getfield 15, 3) := by decide +kernel
theorem dX10_step_153 : decode cX10_step 153 = .ok (.if_icmp .ge 13, 3) := by decide +kernel
theorem dX10_step_156 : decode cX10_step 156 = .ok (.aload_n 0, 1) := by decide +kernel
theorem dX10_step_157 : decode cX10_step 157 = .ok (.dup, 1) := by decide +kernel
theorem dX10_step_158 : decode cX10_step 158 = .ok (.getfield 22, 3) := by decide +kernel
theorem dX10_step_161 : decode cX10_step 161 = .ok (.iconst 1, 1) := by decide +kernel
theorem dX10_step_162 : decode cX10_step 162 = .ok (.iadd, 1) := by decide +kernel
theorem dX10_step_163 : decode cX10_step 163 = .ok (.putfield 22, 3) := by decide +kernel
theorem dX10_step_166 : decode cX10_step 166 = .ok (.return_, 1) := by decide +kernel
theorem dX10_start_0 : decode cX10_start 0 = .ok (.aload_n 0, 1) := by decide +kernel
theorem dX10_start_1 : decode cX10_start 1 = .ok (.getfield 19, 3) := by decide +kernel
theorem dX10_start_4 : decode cX10_start 4 = .ok (.ireturn, 1) := by decide +kernel
theorem dX10_end_0 : decode cX10_end 0 = .ok (.aload_n 0, 1) := by decide +kernel
theorem dX10_end_1 : decode cX10_end 1 = .ok (.getfield 22, 3) := by decide +kernel
theorem dX10_end_4 : decode cX10_end 4 = .ok (.ireturn, 1) := by decide +kernel
theorem dX10_tokenLength_0 : decode cX10_tokenLength 0 = .ok (.aload_n 0, 1) := by decide +kernel
theorem dX10_tokenLength_1 : decode cX10_tokenLength 1 = .ok (.getfield 22, 3) := by decide +kernel
theorem dX10_tokenLength_4 : decode cX10_tokenLength 4 = .ok (.aload_n 0, 1) := by decide +kernel
theorem dX10_tokenLength_5 : decode cX10_tokenLength 5 = .ok (.getfield 19, 3) := by decide +kernel
theorem dX10_tokenLength_8 : decode cX10_tokenLength 8 = .ok (.isub, 1) := by decide +kernel
theorem dX10_tokenLength_9 : decode cX10_tokenLength 9 = .ok (.ireturn, 1) := by decide +kernel
theorem dX10_isSign_0 : decode cX10_isSign 0 = .ok (.aload_n 0, 1) := by decide +kernel
theorem dX10_isSign_1 : decode cX10_isSign 1 = .ok (.invokevirtual 36, 3) := by decide +kernel
theorem dX10_isSign_4 : decode cX10_isSign 4 = .ok (.iconst 1, 1) := by decide +kernel
theorem dX10_isSign_5 : decode cX10_isSign 5 = .ok (.if_icmp .ne 19, 3) := by decide +kernel
theorem dX10_isSign_8 : decode cX10_isSign 8 = .ok (.aload_n 0, 1) := by decide +kernel
theorem dX10_isSign_9 : decode cX10_isSign 9 = .ok (.aload_n 0, 1) := by decide +kernel
theorem dX10_isSign_10 : decode cX10_isSign 10 = .ok (.getfield 19, 3) := by decide +kernel
theorem dX10_isSign_13 : decode cX10_isSign 13 = .ok (.invokevirtual 25, 3) := by decide +kernel
theorem dX10_isSign_16 : decode cX10_isSign 16 = .ok (.iload_n 1, 1) := by decide +kernel
theorem dX10_isSign_17 : decode cX10_isSign 17 = .ok (.if_icmp .ne 7, 3) := by decide +kernel
theorem dX10_isSign_20 : decode cX10_isSign 20 = .ok (.iconst 1, 1) := by decide +kernel
theorem dX10_isSign_21 : decode cX10_isSign 21 = .ok (.goto 4, 3) := by decide +kernel
theorem dX10_isSign_24 : decode cX10_isSign 24 = .ok (.iconst 0, 1) := by decide +kernel
theorem dX10_isSign_25 : decode cX10_isSign 25 = .ok (.ireturn, 1) := by decide +kernel
theorem dX10_isWord_0 : decode cX10_isWord 0 = .ok (.aload_n 0, 1) := by decide +kernel
theorem dX10_isWord_1 : decode cX10_isWord 1 = .ok (.invokevirtual 36, 3) := by decide +kernel
theorem dX10_isWord_4 : decode cX10_isWord 4 = .ok (.aload_n 1, 1) := by decide +kernel
theorem dX10_isWord_5 : decode cX10_isWord 5 = .ok (.invokevirtual 40, 3) := by decide +kernel
theorem dX10_isWord_8 : decode cX10_isWord 8 = .ok (.if_icmp .eq 5, 3) := by decide +kernel
theorem dX10_isWord_11 : decode cX10_isWord 11 = .ok (.iconst 0, 1) := by decide +kernel
theorem dX10_isWord_12 : decode cX10_isWord 12 = .ok (.ireturn, 1) := by decide +kernel
theorem dX10_isWord_13 : decode cX10_isWord 13 = .ok (.iconst 0, 1) := by decide +kernel
theorem dX10_isWord_14 : decode cX10_isWord 14 = .ok (.istore_n 2, 1) := by decide +kernel
theorem dX10_isWord_15 : decode cX10_isWord 15 = .ok (.iload_n 2, 1) := by decide +kernel
theorem dX10_isWord_16 : decode cX10_isWord 16 = .ok (.aload_n 1, 1) := by decide +kernel
theorem dX10_isWord_17 : decode cX10_isWord 17 = .ok (.invokevirtual 40, 3) := by decide +kernel
theorem dX10_isWord_20 : decode cX10_isWord 20 = .ok (.if_icmp .ge 29, 3) := by decide +kernel
theorem dX10_isWord_23 : decode cX10_isWord 23 = .ok (.aload_n 0, 1) := by decide +kernel
theorem dX10_isWord_24 : decode cX10_isWord 24 = .ok (.aload_n 0, 1) := by decide +kernel
theorem dX10_isWord_25 : decode cX10_isWord 25 = .ok (.getfield 19, 3) := by decide +kernel
theorem dX10_isWord_28 : decode cX10_isWord 28 = .ok (.iload_n 2, 1) := by decide +kernel
theorem dX10_isWord_29 : decode cX10_isWord 29 = .ok (.iadd, 1) := by decide +kernel
theorem dX10_isWord_30 : decode cX10_isWord 30 = .ok (.invokevirtual 25, 3) := by decide +kernel
theorem dX10_isWord_33 : decode cX10_isWord 33 = .ok (.aload_n 1, 1) := by decide +kernel
theorem dX10_isWord_34 : decode cX10_isWord 34 = .ok (.iload_n 2, 1) := by decide +kernel
theorem dX10_isWord_35 : decode cX10_isWord 35 = .ok (.invokevirtual 45, 3) := by decide +kernel
theorem dX10_isWord_38 : decode cX10_isWord 38 = .ok (.if_icmp .eq 5, 3) := by decide +kernel
theorem dX10_isWord_41 : decode cX10_isWord 41 = .ok (.iconst 0, 1) := by decide +kernel
theorem dX10_isWord_42 : decode cX10_isWord 42 = .ok (.ireturn, 1) := by decide +kernel
theorem dX10_isWord_43 : decode cX10_isWord 43 = .ok (.iinc 2 1, 3) := by decide +kernel
theorem dX10_isWord_46 : decode cX10_isWord 46 = .ok (.goto (-31), 3) := by decide +kernel
theorem dX10_isWord_49 : decode cX10_isWord 49 = .ok (.iconst 1, 1) := by decide +kernel
theorem dX10_isWord_50 : decode cX10_isWord 50 = .ok (.ireturn, 1) := by decide +kernel
theorem dX10_number_0 : decode cX10_number 0 = .ok (.aload_n 0, 1) := by decide +kernel
theorem dX10_number_1 : decode cX10_number 1 = .ok (.invokevirtual 36, 3) := by decide +kernel
theorem dX10_number_4 : decode cX10_number 4 = .ok (.iconst 1, 1) := by decide +kernel
theorem dX10_number_5 : decode cX10_number 5 = .ok (.if_icmp .ne 28, 3) := by decide +kernel
theorem dX10_number_8 : decode cX10_number 8 = .ok (.aload_n 0, 1) := by decide +kernel
theorem dX10_number_9 : decode cX10_number 9 = .ok (.aload_n 0, 1) := by decide +kernel
theorem dX10_number_10 : decode cX10_number 10 = .ok (.getfield 19, 3) := by decide +kernel
theorem dX10_number_13 : decode cX10_number 13 = .ok (.invokevirtual 33, 3) := by decide +kernel
theorem dX10_number_16 : decode cX10_number 16 = .ok (.ifCond .eq 17, 3) := by decide +kernel
theorem dX10_number_19 : decode cX10_number 19 = .ok (.aload_n 0, 1) := by decide +kernel
theorem dX10_number_20 : decode cX10_number 20 = .ok (.aload_n 0, 1) := by decide +kernel
theorem dX10_number_21 : decode cX10_number 21 = .ok (.getfield 19, 3) := by decide +kernel
theorem dX10_number_24 : decode cX10_number 24 = .ok (.invokevirtual 25, 3) := by decide +kernel
theorem dX10_number_27 : decode cX10_number 27 = .ok (.bipush 48, 2) := by decide +kernel
theorem dX10_number_29 : decode cX10_number 29 = .ok (.isub, 1) := by decide +kernel
theorem dX10_number_30 : decode cX10_number 30 = .ok (.goto 4, 3) := by decide +kernel
theorem dX10_number_33 : decode cX10_number 33 = .ok (.iconst (-1), 1) := by decide +kernel
theorem dX10_number_34 : decode cX10_number 34 = .ok (.ireturn, 1) := by decide +kernel
theorem dX11_init_0 : decode cX11_init 0 = .ok (.aload_n 0, 1) := by decide +kernel
theorem dX11_init_1 : decode cX11_init 1 = .ok (.invokespecial 3, 3) := by decide +kernel
theorem dX11_init_4 : decode cX11_init 4 = .ok (.aload_n 0, 1) := by decide +kernel
theorem dX11_init_5 : decode cX11_init 5 = .ok (.new 9, 3) := by decide +kernel
theorem dX11_init_8 : decode cX11_init 8 = .ok (.dup, 1) := by decide +kernel
theorem dX11_init_9 : decode cX11_init 9 = .ok (.invokespecial 11, 3) := by decide +kernel
theorem dX11_init_12 : decode cX11_init 12 = .ok (.putfield 12, 3) := by decide +kernel
theorem dX11_init_15 : decode cX11_init 15 = .ok (.aload_n 0, 1) := by decide +kernel
theorem dX11_init_16 : decode cX11_init 16 = .ok (.iconst 4, 1) := by decide +kernel
theorem dX11_init_17 : decode cX11_init 17 = .ok (.anewarray 16, 3) := by decide +kernel
theorem dX11_init_20 : decode cX11_init 20 = .ok (.putfield 18, 3) := by decide +kernel
theorem dX11_init_23 : decode cX11_init 23 = .ok (.iconst 0, 1) := by decide +kernel
theorem dX11_init_24 : decode cX11_init 24 = .ok (.istore_n 1, 1) := by decide +kernel
theorem dX11_init_25 : decode cX11_init 25 = .ok (.iload_n 1, 1) := by decide +kernel
theorem dX11_init_26 : decode cX11_init 26 = .ok (.aload_n 0, 1) := by decide +kernel
theorem dX11_init_27 : decode cX11_init 27 = .ok (.getfield 18, 3) := by decide +kernel
theorem dX11_init_30 : decode cX11_init 30 = .ok (.arraylength, 1) := by decide +kernel
theorem dX11_init_31 : decode cX11_init 31 = .ok (.if_icmp .ge 22, 3) := by decide +kernel
theorem dX11_init_34 : decode cX11_init 34 = .ok (.aload_n 0, 1) := by decide +kernel
theorem dX11_init_35 : decode cX11_init 35 = .ok (.getfield 18, 3) := by decide +kernel
theorem dX11_init_38 : decode cX11_init 38 = .ok (.iload_n 1, 1) := by decide +kernel
theorem dX11_init_39 : decode cX11_init 39 = .ok (.new 16, 3) := by decide +kernel
theorem dX11_init_42 : decode cX11_init 42 = .ok (.dup, 1) := by decide +kernel
theorem dX11_init_43 : decode cX11_init 43 = .ok (.invokespecial 22, 3) := by decide +kernel
theorem dX11_init_46 : decode cX11_init 46 = .ok (.aastore, 1) := by decide +kernel
theorem dX11_init_47 : decode cX11_init 47 = .ok (.iinc 1 1, 3) := by decide +kernel
theorem dX11_init_50 : decode cX11_init 50 = .ok (.goto (-25), 3) := by decide +kernel
theorem dX11_init_53 : decode cX11_init 53 = .ok (.aload_n 0, 1) := by decide +kernel
theorem dX11_init_54 : decode cX11_init 54 = .ok (.new 16, 3) := by decide +kernel
theorem dX11_init_57 : decode cX11_init 57 = .ok (.dup, 1) := by decide +kernel
theorem dX11_init_58 : decode cX11_init 58 = .ok (.invokespecial 22, 3) := by decide +kernel
theorem dX11_init_61 : decode cX11_init 61 = .ok (.putfield 23, 3) := by decide +kernel
theorem dX11_init_64 : decode cX11_init 64 = .ok (.aload_n 0, 1) := by decide +kernel
theorem dX11_init_65 : decode cX11_init 65 = .ok (.new 27, 3) := by decide +kernel
theorem dX11_init_68 : decode cX11_init 68 = .ok (.dup, 1) := by decide +kernel
theorem dX11_init_69 : decode cX11_init 69 = .ok (.invokespecial 29, 3) := by decide +kernel
theorem dX11_init_72 : decode cX11_init 72 = .ok (.putfield 30, 3) := by decide +kernel
theorem dX11_init_75 : decode cX11_init 75 = .ok (.aload_n 0, 1) := by decide +kernel
theorem dX11_init_76 : decode cX11_init 76 = .ok (.new 34, 3) := by decide +kernel
theorem dX11_init_79 : decode cX11_init 79 = .ok (.dup, 1) := by decide +kernel
theorem dX11_init_80 : decode cX11_init 80 = .ok (.aload_n 0, 1) := by decide +kernel
theorem dX11_init_81 : decode cX11_init 81 = .ok (.getfield 30, 3) := by decide +kernel
theorem dX11_init_84 : decode cX11_init 84 = .ok (.invokespecial 36, 3) := by decide +kernel
theorem dX11_init_87 : decode cX11_init 87 = .ok (.putfield 39, 3) := by decide +kernel
theorem dX11_init_90 : decode cX11_init 90 = .ok (.aload_n 0, 1) := by decide +kernel
theorem dX11_init_91 : decode cX11_init 91 = .ok (.new 43, 3) := by decide +kernel
theorem dX11_init_94 : decode cX11_init 94 = .ok (.dup, 1) := by decide +kernel
theorem dX11_init_95 : decode cX11_init 95 = .ok (.aload_n 0, 1) := by decide +kernel
theorem dX11_init_96 : decode cX11_init 96 = .ok (.getfield 12, 3) := by decide +kernel
theorem dX11_init_99 : decode cX11_init 99 = .ok (.invokespecial 45, 3) := by decide +kernel
theorem dX11_init_102 : decode cX11_init 102 = .ok (.putfield 48, 3) := by decide +kernel
theorem dX11_init_105 : decode cX11_init 105 = .ok (.aload_n 0, 1) := by decide +kernel
theorem dX11_init_106 : decode cX11_init 106 = .ok (.new 52, 3) := by decide +kernel
theorem dX11_init_109 : decode cX11_init 109 = .ok (.dup, 1) := by decide +kernel
theorem dX11_init_110 : decode cX11_init 110 = .ok (.aload_n 0, 1) := by decide +kernel
theorem dX11_init_111 : decode cX11_init 111 = .ok (.getfield 48, 3) := by decide +kernel
theorem dX11_init_114 : decode cX11_init 114 = .ok (.invokespecial 54, 3) := by decide +kernel
theorem dX11_init_117 : decode cX11_init 117 = .ok (.putfield 57, 3) := by decide +kernel
theorem dX11_init_120 : decode cX11_init 120 = .ok (.aload_n 0, 1) := by decide +kernel
theorem dX11_init_121 : decode cX11_init 121 = .ok (.new 61, 3) := by decide +kernel
theorem dX11_init_124 : decode cX11_init 124 = .ok (.dup, 1) := by decide +kernel
theorem dX11_init_125 : decode cX11_init 125 = .ok (.aload_n 0, 1) := by decide +kernel
theorem dX11_init_126 : decode cX11_init 126 = .ok (.getfield 12, 3) := by decide +kernel
theorem dX11_init_129 : decode cX11_init 129 = .ok (.invokespecial 63, 3) := by decide +kernel
theorem dX11_init_132 : decode cX11_init 132 = .ok (.putfield 64, 3) := by decide +kernel
theorem dX11_init_135 : decode cX11_init 135 = .ok (.aload_n 0, 1) := by decide +kernel
theorem dX11_init_136 : decode cX11_init 136 = .ok (.new 68, 3) := by decide +kernel
theorem dX11_init_139 : decode cX11_init 139 = .ok (.dup, 1) := by decide +kernel
theorem dX11_init_140 : decode cX11_init 140 = .ok (.aload_n 0, 1) := by decide +kernel
theorem dX11_init_141 : decode cX11_init 141 = .ok (.getfield 12, 3) := by decide +kernel
theorem dX11_init_144 : decode cX11_init 144 = .ok (.aload_n 0, 1) := by decide +kernel
theorem dX11_init_145 : decode cX11_init 145 = .ok (.getfield 48, 3) := by decide +kernel
theorem dX11_init_148 : decode cX11_init 148 = .ok (.invokespecial 70, 3) := by decide +kernel
theorem dX11_init_151 : decode cX11_init 151 = .ok (.putfield 73, 3) := by decide +kernel
theorem dX11_init_154 : decode cX11_init 154 = .ok (.aload_n 0, 1) := by decide +kernel
theorem dX11_init_155 : decode cX11_init 155 = .ok (.new 77, 3) := by decide +kernel
theorem dX11_init_158 : decode cX11_init 158 = .ok (.dup, 1) := by decide +kernel
theorem dX11_init_159 : decode cX11_init 159 = .ok (.aload_n 0, 1) := by decide +kernel
theorem dX11_init_160 : decode cX11_init 160 = .ok (.getfield 12, 3) := by decide +kernel
theorem dX11_init_163 : decode cX11_init 163 = .ok (.invokespecial 79, 3) := by decide +kernel
theorem dX11_init_166 : decode cX11_init 166 = .ok (.putfield 80, 3) := by decide +kernel
theorem dX11_init_169 : decode cX11_init 169 = .ok (.aload_n 0, 1) := by decide +kernel
theorem dX11_init_170 : decode cX11_init 170 = .ok (.new 84, 3) := by decide +kernel
theorem dX11_init_173 : decode cX11_init 173 = .ok (.dup, 1) := by decide +kernel
theorem dX11_init_174 : decode cX11_init 174 = .ok (.aload_n 0, 1) := by decide +kernel
theorem dX11_init_175 : decode cX11_init 175 = .ok (.getfield 12, 3) := by decide +kernel
theorem dX11_init_178 : decode cX11_init 178 = .ok (.aload_n 0, 1) := by decide +kernel
theorem dX11_init_179 : decode cX11_init 179 = .ok (.getfield 80, 3) := by decide +kernel
theorem dX11_init_182 : decode cX11_init 182 = .ok (.invokespecial 86, 3) := by decide +kernel
theorem dX11_init_185 : decode cX11_init 185 = .ok (.putfield 89, 3) := by decide +kernel
theorem dX11_init_188 : decode cX11_init 188 = .ok (.return_, 1) := by decide +kernel
theorem dX11_write_0 : decode cX11_write 0 = .ok (.iload_n 3, 1) := by decide +kernel
theorem dX11_write_1 : decode cX11_write 1 = .ok (.iconst 1, 1) := by decide +kernel
theorem dX11_write_2 : decode cX11_write 2 = .ok (.if_icmp .lt 9, 3) := by decide +kernel
theorem dX11_write_5 : decode cX11_write 5 = .ok (.iload_n 3, 1) := by decide +kernel
theorem dX11_write_6 : decode cX11_write 6 = .ok (.bipush 8, 2) := by decide +kernel
theorem dX11_write_8 : decode cX11_write 8 = .ok (.if_icmp .le 6, 3) := by decide +kernel
theorem dX11_write_11 : decode cX11_write 11 = .ok (.bipush (-3), 2) := by decide +kernel
theorem dX11_write_13 : decode cX11_write 13 = .ok (.ireturn, 1) := by decide +kernel
theorem dX11_write_14 : decode cX11_write 14 = .ok (.aload_n 0, 1) := by decide +kernel
theorem dX11_write_15 : decode cX11_write 15 = .ok (.getfield 30, 3) := by decide +kernel
theorem dX11_write_18 : decode cX11_write 18 = .ok (.invokevirtual 93, 3) := by decide +kernel
theorem dX11_write_21 : decode cX11_write 21 = .ok (.iload_n 3, 1) := by decide +kernel
theorem dX11_write_22 : decode cX11_write 22 = .ok (.iadd, 1) := by decide +kernel
theorem dX11_write_23 : decode cX11_write 23 = .ok (.sipush 160, 3) := by decide +kernel
theorem dX11_write_26 : decode cX11_write 26 = .ok (.if_icmp .le 6, 3) := by decide +kernel
theorem dX11_write_29 : decode cX11_write 29 = .ok (.bipush (-5), 2) := by decide +kernel
theorem dX11_write_31 : decode cX11_write 31 = .ok (.ireturn, 1) := by decide +kernel
theorem dX11_write_32 : decode cX11_write 32 = .ok (.iconst 0, 1) := by decide +kernel
theorem dX11_write_33 : decode cX11_write 33 = .ok (.istore 4, 2) := by decide +kernel
theorem dX11_write_35 : decode cX11_write 35 = .ok (.iload 4, 2) := by decide +kernel
theorem dX11_write_37 : decode cX11_write 37 = .ok (.iload_n 3, 1) := by decide +kernel
theorem dX11_write_38 : decode cX11_write 38 = .ok (.if_icmp .ge 28, 3) := by decide +kernel
theorem dX11_write_41 : decode cX11_write 41 = .ok (.aload_n 0, 1) := by decide +kernel
theorem dX11_write_42 : decode cX11_write 42 = .ok (.getfield 30, 3) := by decide +kernel
theorem dX11_write_45 : decode cX11_write 45 = .ok (.lload_n 1, 1) := by decide +kernel
theorem dX11_write_46 : decode cX11_write 46 = .ok (.bipush 8, 2) := by decide +kernel
theorem dX11_write_48 : decode cX11_write 48 = .ok (.iload 4, 2) := by decide +kernel
theorem dX11_write_50 : decode cX11_write 50 = .ok (.imul, 1) := by decide +kernel
theorem dX11_write_51 : decode cX11_write 51 = .ok (.lshr, 1) := by decide +kernel
theorem dX11_write_52 : decode cX11_write 52 = .ok (.ldc2_w 97, 3) := by decide +kernel
theorem dX11_write_55 : decode cX11_write 55 = .ok (.land, 1) := by decide +kernel
theorem dX11_write_56 : decode cX11_write 56 = .ok (.l2i, 1) := by decide +kernel
theorem dX11_write_57 : decode cX11_write 57 = .ok (.invokevirtual 99, 3) := by decide +kernel
theorem dX11_write_60 : decode cX11_write 60 = .ok (.iinc 4 1, 3) := by decide +kernel
theorem dX11_write_63 : decode cX11_write 63 = .ok (.goto (-28), 3) := by decide +kernel
theorem dX11_write_66 : decode cX11_write 66 = .ok (.aload_n 0, 1) := by decide +kernel
theorem dX11_write_67 : decode cX11_write 67 = .ok (.getfield 30, 3) := by decide +kernel
theorem dX11_write_70 : decode cX11_write 70 = .ok (.invokevirtual 93, 3) := by decide +kernel
theorem dX11_write_73 : decode cX11_write 73 = .ok (.ireturn, 1) := by decide +kernel
theorem dX11_erase_0 : decode cX11_erase 0 = .ok (.aload_n 0, 1) := by decide +kernel
theorem dX11_erase_1 : decode cX11_erase 1 = .ok (.getfield 30, 3) := by decide +kernel
theorem dX11_erase_4 : decode cX11_erase 4 = .ok (.invokevirtual 93, 3) := by decide +kernel
theorem dX11_erase_7 : decode cX11_erase 7 = .ok (.istore_n 1, 1) := by decide +kernel
theorem dX11_erase_8 : decode cX11_erase 8 = .ok (.aload_n 0, 1) := by decide +kernel
theorem dX11_erase_9 : decode cX11_erase 9 = .ok (.getfield 30, 3) := by decide +kernel
theorem dX11_erase_12 : decode cX11_erase 12 = .ok (.invokevirtual 103, 3) := by decide +kernel
theorem dX11_erase_15 : decode cX11_erase 15 = .ok (.iload_n 1, 1) := by decide +kernel
theorem dX11_erase_16 : decode cX11_erase 16 = .ok (.ireturn, 1) := by decide +kernel
theorem dX11_fault_0 : decode cX11_fault 0 = .ok (.aload_n 0, 1) := by decide +kernel
theorem dX11_fault_1 : decode cX11_fault 1 = .ok (.getfield 39, 3) := by decide +kernel
theorem dX11_fault_4 : decode cX11_fault 4 = .ok (.aload_n 0, 1) := by decide +kernel
theorem dX11_fault_5 : decode cX11_fault 5 = .ok (.getfield 12, 3) := by decide +kernel
theorem dX11_fault_8 : decode cX11_fault 8 = .ok (.invokevirtual 106, 3) := by decide +kernel
theorem dX11_fault_11 : decode cX11_fault 11 = .ok (.invokevirtual 107, 3) := by decide +kernel
theorem dX11_fault_14 : decode cX11_fault 14 = .ok (.ireturn, 1) := by decide +kernel
theorem dX11_told_0 : decode cX11_told 0 = .ok (.aload_n 0, 1) := by decide +kernel
theorem dX11_told_1 : decode cX11_told 1 = .ok (.getfield 39, 3) := by decide +kernel
theorem dX11_told_4 : decode cX11_told 4 = .ok (.aload_n 0, 1) := by decide +kernel
theorem dX11_told_5 : decode cX11_told 5 = .ok (.getfield 12, 3) := by decide +kernel
theorem dX11_told_8 : decode cX11_told 8 = .ok (.invokevirtual 106, 3) := by decide +kernel
theorem dX11_told_11 : decode cX11_told 11 = .ok (.invokevirtual 107, 3) := by decide +kernel
theorem dX11_told_14 : decode cX11_told 14 = .ok (.iconst (-1), 1) := by decide +kernel
theorem dX11_told_15 : decode cX11_told 15 = .ok (.if_icmp .eq 6, 3) := by decide +kernel
theorem dX11_told_18 : decode cX11_told 18 = .ok (.bipush (-4), 2) := by decide +kernel
theorem dX11_told_20 : decode cX11_told 20 = .ok (.ireturn, 1) := by decide +kernel
theorem dX11_told_21 : decode cX11_told 21 = .ok (.aload_n 0, 1) := by decide +kernel
theorem dX11_told_22 : decode cX11_told 22 = .ok (.getfield 39, 3) := by decide +kernel
theorem dX11_told_25 : decode cX11_told 25 = .ok (.invokevirtual 111, 3) := by decide +kernel
theorem dX11_told_28 : decode cX11_told 28 = .ok (.istore_n 1, 1) := by decide +kernel
theorem dX11_told_29 : decode cX11_told 29 = .ok (.iconst 0, 1) := by decide +kernel
theorem dX11_told_30 : decode cX11_told 30 = .ok (.istore_n 2, 1) := by decide +kernel
theorem dX11_told_31 : decode cX11_told 31 = .ok (.iload_n 2, 1) := by decide +kernel
theorem dX11_told_32 : decode cX11_told 32 = .ok (.iload_n 1, 1) := by decide +kernel
theorem dX11_told_33 : decode cX11_told 33 = .ok (.if_icmp .ge 21, 3) := by decide +kernel
theorem dX11_told_36 : decode cX11_told 36 = .ok (.aload_n 0, 1) := by decide +kernel
theorem dX11_told_37 : decode cX11_told 37 = .ok (.aload_n 0, 1) := by decide +kernel
theorem dX11_told_38 : decode cX11_told 38 = .ok (.getfield 39, 3) := by decide +kernel
theorem dX11_told_41 : decode cX11_told 41 = .ok (.iload_n 2, 1) := by decide +kernel
theorem dX11_told_42 : decode cX11_told 42 = .ok (.invokevirtual 112, 3) := by decide +kernel
theorem dX11_told_45 : decode cX11_told 45 = .ok (.invokevirtual 116, 3) := by decide +kernel
theorem dX11_told_48 : decode cX11_told 48 = .ok (.iinc 2 1, 3) := by decide +kernel
theorem dX11_told_51 : decode cX11_told 51 = .ok (.goto (-20), 3) := by decide +kernel
theorem dX11_told_54 : decode cX11_told 54 = .ok (.aload_n 0, 1) := by decide +kernel
theorem dX11_told_55 : decode cX11_told 55 = .ok (.getfield 30, 3) := by decide +kernel
theorem dX11_told_58 : decode cX11_told 58 = .ok (.invokevirtual 103, 3) := by decide +kernel
theorem dX11_told_61 : decode cX11_told 61 = .ok (.iload_n 1, 1) := by decide +kernel
theorem dX11_told_62 : decode cX11_told 62 = .ok (.ireturn, 1) := by decide +kernel
theorem dX11_free_0 : decode cX11_free 0 = .ok (.aload_n 0, 1) := by decide +kernel
theorem dX11_free_1 : decode cX11_free 1 = .ok (.getfield 12, 3) := by decide +kernel
theorem dX11_free_4 : decode cX11_free 4 = .ok (.iload_n 1, 1) := by decide +kernel
theorem dX11_free_5 : decode cX11_free 5 = .ok (.invokevirtual 120, 3) := by decide +kernel
theorem dX11_free_8 : decode cX11_free 8 = .ok (.ifCond .eq 19, 3) := by decide +kernel
theorem dX11_free_11 : decode cX11_free 11 = .ok (.aload_n 0, 1) := by decide +kernel
theorem dX11_free_12 : decode cX11_free 12 = .ok (.getfield 12, 3) := by decide +kernel
theorem dX11_free_15 : decode cX11_free 15 = .ok (.iload_n 2, 1) := by decide +kernel
theorem dX11_free_16 : decode cX11_free 16 = .ok (.invokevirtual 120, 3) := by decide +kernel
theorem dX11_free_19 : decode cX11_free 19 = .ok (.ifCond .eq 8, 3) := by decide +kernel
theorem dX11_free_22 : decode cX11_free 22 = .ok (.iload_n 1, 1) := by decide +kernel
theorem dX11_free_23 : decode cX11_free 23 = .ok (.iload_n 2, 1) := by decide +kernel
theorem dX11_free_24 : decode cX11_free 24 = .ok (.if_icmp .ne 6, 3) := by decide +kernel
theorem dX11_free_27 : decode cX11_free 27 = .ok (.bipush (-2), 2) := by decide +kernel
theorem dX11_free_29 : decode cX11_free 29 = .ok (.ireturn, 1) := by decide +kernel
theorem dX11_free_30 : decode cX11_free 30 = .ok (.aload_n 0, 1) := by decide +kernel
theorem dX11_free_31 : decode cX11_free 31 = .ok (.getfield 12, 3) := by decide +kernel
theorem dX11_free_34 : decode cX11_free 34 = .ok (.iload_n 1, 1) := by decide +kernel
theorem dX11_free_35 : decode cX11_free 35 = .ok (.iload_n 2, 1) := by decide +kernel
theorem dX11_free_36 : decode cX11_free 36 = .ok (.invokevirtual 124, 3) := by decide +kernel
theorem dX11_free_39 : decode cX11_free 39 = .ok (.invokestatic 128, 3) := by decide +kernel
theorem dX11_free_42 : decode cX11_free 42 = .ok (.istore 4, 2) := by decide +kernel
theorem dX11_free_44 : decode cX11_free 44 = .ok (.aload_n 0, 1) := by decide +kernel
theorem dX11_free_45 : decode cX11_free 45 = .ok (.getfield 12, 3) := by decide +kernel
theorem dX11_free_48 : decode cX11_free 48 = .ok (.iload_n 1, 1) := by decide +kernel
theorem dX11_free_49 : decode cX11_free 49 = .ok (.iload_n 2, 1) := by decide +kernel
theorem dX11_free_50 : decode cX11_free 50 = .ok (.iload_n 3, 1) := by decide +kernel
theorem dX11_free_51 : decode cX11_free 51 = .ok (.invokevirtual 132, 3) := by decide +kernel
theorem dX11_free_54 : decode cX11_free 54 = .ok (.iload 4, 2) := by decide +kernel
theorem dX11_free_56 : decode cX11_free 56 = .ok (.ireturn, 1) := by decide +kernel
theorem dX11_add_0 : decode cX11_add 0 = .ok (.aload_n 0, 1) := by decide +kernel
theorem dX11_add_1 : decode cX11_add 1 = .ok (.iload_n 1, 1) := by decide +kernel
theorem dX11_add_2 : decode cX11_add 2 = .ok (.invokevirtual 136, 3) := by decide +kernel
theorem dX11_add_5 : decode cX11_add 5 = .ok (.astore_n 3, 1) := by decide +kernel
theorem dX11_add_6 : decode cX11_add 6 = .ok (.aload_n 3, 1) := by decide +kernel
theorem dX11_add_7 : decode cX11_add 7 = .ok (.ifnull 14, 3) := by decide +kernel
theorem dX11_add_10 : decode cX11_add 10 = .ok (.aload_n 0, 1) := by decide +kernel
theorem dX11_add_11 : decode cX11_add 11 = .ok (.getfield 12, 3) := by decide +kernel
theorem dX11_add_14 : decode cX11_add 14 = .ok (.iload_n 2, 1) := by decide +kernel
theorem dX11_add_15 : decode cX11_add 15 = .ok (.invokevirtual 120, 3) := by decide +kernel
theorem dX11_add_18 : decode cX11_add 18 = .ok (.ifCond .ne 6, 3) := by decide +kernel
theorem dX11_add_21 : decode cX11_add 21 = .ok (.bipush (-2), 2) := by decide +kernel
theorem dX11_add_23 : decode cX11_add 23 = .ok (.ireturn, 1) := by decide +kernel
theorem dX11_add_24 : decode cX11_add 24 = .ok (.aload_n 3, 1) := by decide +kernel
theorem dX11_add_25 : decode cX11_add 25 = .ok (.iload_n 2, 1) := by decide +kernel
theorem dX11_add_26 : decode cX11_add 26 = .ok (.invokevirtual 140, 3) := by decide +kernel
theorem dX11_add_29 : decode cX11_add 29 = .ok (.ifCond .eq 10, 3) := by decide +kernel
theorem dX11_add_32 : decode cX11_add 32 = .ok (.aload_n 3, 1) := by decide +kernel
theorem dX11_add_33 : decode cX11_add 33 = .ok (.invokevirtual 142, 3) := by decide +kernel
theorem dX11_add_36 : decode cX11_add 36 = .ok (.goto 5, 3) := by decide +kernel
theorem dX11_add_39 : decode cX11_add 39 = .ok (.bipush (-5), 2) := by decide +kernel
theorem dX11_add_41 : decode cX11_add 41 = .ok (.ireturn, 1) := by decide +kernel
theorem dX11_clear_0 : decode cX11_clear 0 = .ok (.aload_n 0, 1) := by decide +kernel
theorem dX11_clear_1 : decode cX11_clear 1 = .ok (.iload_n 1, 1) := by decide +kernel
theorem dX11_clear_2 : decode cX11_clear 2 = .ok (.invokevirtual 136, 3) := by decide +kernel
theorem dX11_clear_5 : decode cX11_clear 5 = .ok (.astore_n 2, 1) := by decide +kernel
theorem dX11_clear_6 : decode cX11_clear 6 = .ok (.aload_n 2, 1) := by decide +kernel
theorem dX11_clear_7 : decode cX11_clear 7 = .ok (.ifnonnull 6, 3) := by decide +kernel
theorem dX11_clear_10 : decode cX11_clear 10 = .ok (.bipush (-2), 2) := by decide +kernel
theorem dX11_clear_12 : decode cX11_clear 12 = .ok (.ireturn, 1) := by decide +kernel
theorem dX11_clear_13 : decode cX11_clear 13 = .ok (.aload_n 2, 1) := by decide +kernel
theorem dX11_clear_14 : decode cX11_clear 14 = .ok (.invokevirtual 142, 3) := by decide +kernel
theorem dX11_clear_17 : decode cX11_clear 17 = .ok (.istore_n 3, 1) := by decide +kernel
theorem dX11_clear_18 : decode cX11_clear 18 = .ok (.aload_n 2, 1) := by decide +kernel
theorem dX11_clear_19 : decode cX11_clear 19 = .ok (.invokevirtual 145, 3) := by decide +kernel
theorem dX11_clear_22 : decode cX11_clear 22 = .ok (.iload_n 3, 1) := by decide +kernel
theorem dX11_clear_23 : decode cX11_clear 23 = .ok (.ireturn, 1) := by decide +kernel
theorem dX11_letter_0 : decode cX11_letter 0 = .ok (.aload_n 0, 1) := by decide +kernel
theorem dX11_letter_1 : decode cX11_letter 1 = .ok (.iload_n 1, 1) := by decide +kernel
theorem dX11_letter_2 : decode cX11_letter 2 = .ok (.invokevirtual 136, 3) := by decide +kernel
theorem dX11_letter_5 : decode cX11_letter 5 = .ok (.astore 4, 2) := by decide +kernel
theorem dX11_letter_7 : decode cX11_letter 7 = .ok (.aload 4, 2) := by decide +kernel
theorem dX11_letter_9 : decode cX11_letter 9 = .ok (.ifnonnull 6, 3) := by decide +kernel
theorem dX11_letter_12 : decode cX11_letter 12 = .ok (.bipush (-2), 2) := by decide +kernel
theorem dX11_letter_14 : decode cX11_letter 14 = .ok (.ireturn, 1) := by decide +kernel
theorem dX11_letter_15 : decode cX11_letter 15 = .ok (.iload_n 2, 1) := by decide +kernel
theorem dX11_letter_16 : decode cX11_letter 16 = .ok (.ifCond .lt 12, 3) := by decide +kernel
theorem dX11_letter_19 : decode cX11_letter 19 = .ok (.iload_n 3, 1) := by decide +kernel
theorem dX11_letter_20 : decode cX11_letter 20 = .ok (.ifCond .lt 8, 3) := by decide +kernel
theorem dX11_letter_23 : decode cX11_letter 23 = .ok (.iload_n 3, 1) := by decide +kernel
theorem dX11_letter_24 : decode cX11_letter 24 = .ok (.iconst 1, 1) := by decide +kernel
theorem dX11_letter_25 : decode cX11_letter 25 = .ok (.if_icmp .le 6, 3) := by decide +kernel
theorem dX11_letter_28 : decode cX11_letter 28 = .ok (.bipush (-3), 2) := by decide +kernel
theorem dX11_letter_30 : decode cX11_letter 30 = .ok (.ireturn, 1) := by decide +kernel
theorem dX11_letter_31 : decode cX11_letter 31 = .ok (.iload_n 3, 1) := by decide +kernel
theorem dX11_letter_32 : decode cX11_letter 32 = .ok (.ifCond .ne 10, 3) := by decide +kernel
theorem dX11_letter_35 : decode cX11_letter 35 = .ok (.aload 4, 2) := by decide +kernel
theorem dX11_letter_37 : decode cX11_letter 37 = .ok (.iload_n 2, 1) := by decide +kernel
theorem dX11_letter_38 : decode cX11_letter 38 = .ok (.invokevirtual 146, 3) := by decide +kernel
theorem dX11_letter_41 : decode cX11_letter 41 = .ok (.ireturn, 1) := by decide +kernel
theorem dX11_letter_42 : decode cX11_letter 42 = .ok (.aload_n 0, 1) := by decide +kernel
theorem dX11_letter_43 : decode cX11_letter 43 = .ok (.getfield 48, 3) := by decide +kernel
theorem dX11_letter_46 : decode cX11_letter 46 = .ok (.aload 4, 2) := by decide +kernel
theorem dX11_letter_48 : decode cX11_letter 48 = .ok (.aload_n 0, 1) := by decide +kernel
theorem dX11_letter_49 : decode cX11_letter 49 = .ok (.getfield 23, 3) := by decide +kernel
theorem dX11_letter_52 : decode cX11_letter 52 = .ok (.invokevirtual 148, 3) := by decide +kernel
theorem dX11_letter_55 : decode cX11_letter 55 = .ok (.aload_n 0, 1) := by decide +kernel
theorem dX11_letter_56 : decode cX11_letter 56 = .ok (.getfield 23, 3) := by decide +kernel
theorem dX11_letter_59 : decode cX11_letter 59 = .ok (.iload_n 2, 1) := by decide +kernel
theorem dX11_letter_60 : decode cX11_letter 60 = .ok (.invokevirtual 146, 3) := by decide +kernel
theorem dX11_letter_63 : decode cX11_letter 63 = .ok (.ireturn, 1) := by decide +kernel
theorem dX11_same_0 : decode cX11_same 0 = .ok (.aload_n 0, 1) := by decide +kernel
theorem dX11_same_1 : decode cX11_same 1 = .ok (.iload_n 1, 1) := by decide +kernel
theorem dX11_same_2 : decode cX11_same 2 = .ok (.invokevirtual 136, 3) := by decide +kernel
theorem dX11_same_5 : decode cX11_same 5 = .ok (.astore_n 3, 1) := by decide +kernel
theorem dX11_same_6 : decode cX11_same 6 = .ok (.aload_n 0, 1) := by decide +kernel
theorem dX11_same_7 : decode cX11_same 7 = .ok (.iload_n 2, 1) := by decide +kernel
theorem dX11_same_8 : decode cX11_same 8 = .ok (.invokevirtual 136, 3) := by decide +kernel
theorem dX11_same_11 : decode cX11_same 11 = .ok (.astore 4, 2) := by decide +kernel
theorem dX11_same_13 : decode cX11_same 13 = .ok (.aload_n 3, 1) := by decide +kernel
theorem dX11_same_14 : decode cX11_same 14 = .ok (.ifnull 8, 3) := by decide +kernel
theorem dX11_same_17 : decode cX11_same 17 = .ok (.aload 4, 2) := by decide +kernel
theorem dX11_same_19 : decode cX11_same 19 = .ok (.ifnonnull 6, 3) := by decide +kernel
theorem dX11_same_22 : decode cX11_same 22 = .ok (.bipush (-2), 2) := by decide +kernel
theorem dX11_same_24 : decode cX11_same 24 = .ok (.ireturn, 1) := by decide +kernel
theorem dX11_same_25 : decode cX11_same 25 = .ok (.aload_n 0, 1) := by decide +kernel
theorem dX11_same_26 : decode cX11_same 26 = .ok (.getfield 48, 3) := by decide +kernel
theorem dX11_same_29 : decode cX11_same 29 = .ok (.aload_n 3, 1) := by decide +kernel
theorem dX11_same_30 : decode cX11_same 30 = .ok (.aload 4, 2) := by decide +kernel
theorem dX11_same_32 : decode cX11_same 32 = .ok (.invokevirtual 152, 3) := by decide +kernel
theorem dX11_same_35 : decode cX11_same 35 = .ok (.invokestatic 128, 3) := by decide +kernel
theorem dX11_same_38 : decode cX11_same 38 = .ok (.ireturn, 1) := by decide +kernel
theorem dX11_apart_0 : decode cX11_apart 0 = .ok (.aload_n 0, 1) := by decide +kernel
theorem dX11_apart_1 : decode cX11_apart 1 = .ok (.iload_n 1, 1) := by decide +kernel
theorem dX11_apart_2 : decode cX11_apart 2 = .ok (.invokevirtual 136, 3) := by decide +kernel
theorem dX11_apart_5 : decode cX11_apart 5 = .ok (.astore_n 3, 1) := by decide +kernel
theorem dX11_apart_6 : decode cX11_apart 6 = .ok (.aload_n 0, 1) := by decide +kernel
theorem dX11_apart_7 : decode cX11_apart 7 = .ok (.iload_n 2, 1) := by decide +kernel
theorem dX11_apart_8 : decode cX11_apart 8 = .ok (.invokevirtual 136, 3) := by decide +kernel
theorem dX11_apart_11 : decode cX11_apart 11 = .ok (.astore 4, 2) := by decide +kernel
theorem dX11_apart_13 : decode cX11_apart 13 = .ok (.aload_n 3, 1) := by decide +kernel
theorem dX11_apart_14 : decode cX11_apart 14 = .ok (.ifnull 8, 3) := by decide +kernel
theorem dX11_apart_17 : decode cX11_apart 17 = .ok (.aload 4, 2) := by decide +kernel
theorem dX11_apart_19 : decode cX11_apart 19 = .ok (.ifnonnull 6, 3) := by decide +kernel
theorem dX11_apart_22 : decode cX11_apart 22 = .ok (.bipush (-2), 2) := by decide +kernel
theorem dX11_apart_24 : decode cX11_apart 24 = .ok (.ireturn, 1) := by decide +kernel
theorem dX11_apart_25 : decode cX11_apart 25 = .ok (.aload_n 0, 1) := by decide +kernel
theorem dX11_apart_26 : decode cX11_apart 26 = .ok (.getfield 48, 3) := by decide +kernel
theorem dX11_apart_29 : decode cX11_apart 29 = .ok (.aload_n 3, 1) := by decide +kernel
theorem dX11_apart_30 : decode cX11_apart 30 = .ok (.aload 4, 2) := by decide +kernel
theorem dX11_apart_32 : decode cX11_apart 32 = .ok (.invokevirtual 156, 3) := by decide +kernel
theorem dX11_apart_35 : decode cX11_apart 35 = .ok (.ireturn, 1) := by decide +kernel
theorem dX11_layer_0 : decode cX11_layer 0 = .ok (.aload_n 0, 1) := by decide +kernel
theorem dX11_layer_1 : decode cX11_layer 1 = .ok (.iload_n 1, 1) := by decide +kernel
theorem dX11_layer_2 : decode cX11_layer 2 = .ok (.invokevirtual 136, 3) := by decide +kernel
theorem dX11_layer_5 : decode cX11_layer 5 = .ok (.astore_n 3, 1) := by decide +kernel
theorem dX11_layer_6 : decode cX11_layer 6 = .ok (.aload_n 3, 1) := by decide +kernel
theorem dX11_layer_7 : decode cX11_layer 7 = .ok (.ifnonnull 6, 3) := by decide +kernel
theorem dX11_layer_10 : decode cX11_layer 10 = .ok (.bipush (-2), 2) := by decide +kernel
theorem dX11_layer_12 : decode cX11_layer 12 = .ok (.ireturn, 1) := by decide +kernel
theorem dX11_layer_13 : decode cX11_layer 13 = .ok (.iload_n 2, 1) := by decide +kernel
theorem dX11_layer_14 : decode cX11_layer 14 = .ok (.iconst (-1), 1) := by decide +kernel
theorem dX11_layer_15 : decode cX11_layer 15 = .ok (.if_icmp .ge 8, 3) := by decide +kernel
theorem dX11_layer_18 : decode cX11_layer 18 = .ok (.bipush (-3), 2) := by decide +kernel
theorem dX11_layer_20 : decode cX11_layer 20 = .ok (.goto 12, 3) := by decide +kernel
theorem dX11_layer_23 : decode cX11_layer 23 = .ok (.aload_n 0, 1) := by decide +kernel
theorem dX11_layer_24 : decode cX11_layer 24 = .ok (.getfield 48, 3) := by decide +kernel
theorem dX11_layer_27 : decode cX11_layer 27 = .ok (.aload_n 3, 1) := by decide +kernel
theorem dX11_layer_28 : decode cX11_layer 28 = .ok (.iload_n 2, 1) := by decide +kernel
theorem dX11_layer_29 : decode cX11_layer 29 = .ok (.invokevirtual 160, 3) := by decide +kernel
theorem dX11_layer_32 : decode cX11_layer 32 = .ok (.ireturn, 1) := by decide +kernel
theorem dX11_ahead_0 : decode cX11_ahead 0 = .ok (.aload_n 0, 1) := by decide +kernel
theorem dX11_ahead_1 : decode cX11_ahead 1 = .ok (.iload_n 1, 1) := by decide +kernel
theorem dX11_ahead_2 : decode cX11_ahead 2 = .ok (.invokevirtual 136, 3) := by decide +kernel
theorem dX11_ahead_5 : decode cX11_ahead 5 = .ok (.astore 4, 2) := by decide +kernel
theorem dX11_ahead_7 : decode cX11_ahead 7 = .ok (.aload 4, 2) := by decide +kernel
theorem dX11_ahead_9 : decode cX11_ahead 9 = .ok (.ifnonnull 6, 3) := by decide +kernel
theorem dX11_ahead_12 : decode cX11_ahead 12 = .ok (.bipush (-2), 2) := by decide +kernel
theorem dX11_ahead_14 : decode cX11_ahead 14 = .ok (.ireturn, 1) := by decide +kernel
theorem dX11_ahead_15 : decode cX11_ahead 15 = .ok (.aload 4, 2) := by decide +kernel
theorem dX11_ahead_17 : decode cX11_ahead 17 = .ok (.iload_n 2, 1) := by decide +kernel
theorem dX11_ahead_18 : decode cX11_ahead 18 = .ok (.invokevirtual 164, 3) := by decide +kernel
theorem dX11_ahead_21 : decode cX11_ahead 21 = .ok (.ifCond .eq 12, 3) := by decide +kernel
theorem dX11_ahead_24 : decode cX11_ahead 24 = .ok (.aload 4, 2) := by decide +kernel
theorem dX11_ahead_26 : decode cX11_ahead 26 = .ok (.iload_n 3, 1) := by decide +kernel
theorem dX11_ahead_27 : decode cX11_ahead 27 = .ok (.invokevirtual 164, 3) := by decide +kernel
theorem dX11_ahead_30 : decode cX11_ahead 30 = .ok (.ifCond .ne 6, 3) := by decide +kernel
theorem dX11_ahead_33 : decode cX11_ahead 33 = .ok (.bipush (-3), 2) := by decide +kernel
theorem dX11_ahead_35 : decode cX11_ahead 35 = .ok (.ireturn, 1) := by decide +kernel
theorem dX11_ahead_36 : decode cX11_ahead 36 = .ok (.aload_n 0, 1) := by decide +kernel
theorem dX11_ahead_37 : decode cX11_ahead 37 = .ok (.getfield 48, 3) := by decide +kernel
theorem dX11_ahead_40 : decode cX11_ahead 40 = .ok (.aload 4, 2) := by decide +kernel
theorem dX11_ahead_42 : decode cX11_ahead 42 = .ok (.iload_n 2, 1) := by decide +kernel
theorem dX11_ahead_43 : decode cX11_ahead 43 = .ok (.iload_n 3, 1) := by decide +kernel
theorem dX11_ahead_44 : decode cX11_ahead 44 = .ok (.invokevirtual 167, 3) := by decide +kernel
theorem dX11_ahead_47 : decode cX11_ahead 47 = .ok (.invokestatic 128, 3) := by decide +kernel
theorem dX11_ahead_50 : decode cX11_ahead 50 = .ok (.ireturn, 1) := by decide +kernel
theorem dX11_begins_0 : decode cX11_begins 0 = .ok (.aload_n 0, 1) := by decide +kernel
theorem dX11_begins_1 : decode cX11_begins 1 = .ok (.iload_n 1, 1) := by decide +kernel
theorem dX11_begins_2 : decode cX11_begins 2 = .ok (.invokevirtual 136, 3) := by decide +kernel
theorem dX11_begins_5 : decode cX11_begins 5 = .ok (.astore_n 3, 1) := by decide +kernel
theorem dX11_begins_6 : decode cX11_begins 6 = .ok (.aload_n 3, 1) := by decide +kernel
theorem dX11_begins_7 : decode cX11_begins 7 = .ok (.ifnonnull 6, 3) := by decide +kernel
theorem dX11_begins_10 : decode cX11_begins 10 = .ok (.bipush (-2), 2) := by decide +kernel
theorem dX11_begins_12 : decode cX11_begins 12 = .ok (.ireturn, 1) := by decide +kernel
theorem dX11_begins_13 : decode cX11_begins 13 = .ok (.iload_n 2, 1) := by decide +kernel
theorem dX11_begins_14 : decode cX11_begins 14 = .ok (.ifCond .lt 8, 3) := by decide +kernel
theorem dX11_begins_17 : decode cX11_begins 17 = .ok (.iload_n 2, 1) := by decide +kernel
theorem dX11_begins_18 : decode cX11_begins 18 = .ok (.iconst 2, 1) := by decide +kernel
theorem dX11_begins_19 : decode cX11_begins 19 = .ok (.if_icmp .le 6, 3) := by decide +kernel
theorem dX11_begins_22 : decode cX11_begins 22 = .ok (.bipush (-3), 2) := by decide +kernel
theorem dX11_begins_24 : decode cX11_begins 24 = .ok (.ireturn, 1) := by decide +kernel
theorem dX11_begins_25 : decode cX11_begins 25 = .ok (.aload_n 0, 1) := by decide +kernel
theorem dX11_begins_26 : decode cX11_begins 26 = .ok (.getfield 64, 3) := by decide +kernel
theorem dX11_begins_29 : decode cX11_begins 29 = .ok (.aload_n 3, 1) := by decide +kernel
theorem dX11_begins_30 : decode cX11_begins 30 = .ok (.invokevirtual 171, 3) := by decide +kernel
theorem dX11_begins_33 : decode cX11_begins 33 = .ok (.ifCond .ne 6, 3) := by decide +kernel
theorem dX11_begins_36 : decode cX11_begins 36 = .ok (.bipush (-6), 2) := by decide +kernel
theorem dX11_begins_38 : decode cX11_begins 38 = .ok (.ireturn, 1) := by decide +kernel
theorem dX11_begins_39 : decode cX11_begins 39 = .ok (.iload_n 2, 1) := by decide +kernel
theorem dX11_begins_40 : decode cX11_begins 40 = .ok (.ifCond .ne 11, 3) := by decide +kernel
theorem dX11_begins_43 : decode cX11_begins 43 = .ok (.aload_n 0, 1) := by decide +kernel
theorem dX11_begins_44 : decode cX11_begins 44 = .ok (.getfield 64, 3) := by decide +kernel
theorem dX11_begins_47 : decode cX11_begins 47 = .ok (.invokevirtual 175, 3) := by decide +kernel
theorem dX11_begins_50 : decode cX11_begins 50 = .ok (.ireturn, 1) := by decide +kernel
theorem dX11_begins_51 : decode cX11_begins 51 = .ok (.iload_n 2, 1) := by decide +kernel
theorem dX11_begins_52 : decode cX11_begins 52 = .ok (.iconst 1, 1) := by decide +kernel
theorem dX11_begins_53 : decode cX11_begins 53 = .ok (.if_icmp .ne 13, 3) := by decide +kernel
theorem dX11_begins_56 : decode cX11_begins 56 = .ok (.aload_n 0, 1) := by decide +kernel
theorem dX11_begins_57 : decode cX11_begins 57 = .ok (.getfield 64, 3) := by decide +kernel
theorem dX11_begins_60 : decode cX11_begins 60 = .ok (.invokevirtual 178, 3) := by decide +kernel
theorem dX11_begins_63 : decode cX11_begins 63 = .ok (.goto 10, 3) := by decide +kernel
theorem dX11_begins_66 : decode cX11_begins 66 = .ok (.aload_n 0, 1) := by decide +kernel
theorem dX11_begins_67 : decode cX11_begins 67 = .ok (.getfield 64, 3) := by decide +kernel
theorem dX11_begins_70 : decode cX11_begins 70 = .ok (.invokevirtual 181, 3) := by decide +kernel
theorem dX11_begins_73 : decode cX11_begins 73 = .ok (.ireturn, 1) := by decide +kernel
theorem dX11_join_0 : decode cX11_join 0 = .ok (.aload_n 0, 1) := by decide +kernel
theorem dX11_join_1 : decode cX11_join 1 = .ok (.iload_n 1, 1) := by decide +kernel
theorem dX11_join_2 : decode cX11_join 2 = .ok (.invokevirtual 136, 3) := by decide +kernel
theorem dX11_join_5 : decode cX11_join 5 = .ok (.astore 4, 2) := by decide +kernel
theorem dX11_join_7 : decode cX11_join 7 = .ok (.aload_n 0, 1) := by decide +kernel
theorem dX11_join_8 : decode cX11_join 8 = .ok (.iload_n 2, 1) := by decide +kernel
theorem dX11_join_9 : decode cX11_join 9 = .ok (.invokevirtual 136, 3) := by decide +kernel
theorem dX11_join_12 : decode cX11_join 12 = .ok (.astore 5, 2) := by decide +kernel
theorem dX11_join_14 : decode cX11_join 14 = .ok (.aload_n 0, 1) := by decide +kernel
theorem dX11_join_15 : decode cX11_join 15 = .ok (.iload_n 3, 1) := by decide +kernel
theorem dX11_join_16 : decode cX11_join 16 = .ok (.invokevirtual 136, 3) := by decide +kernel
theorem dX11_join_19 : decode cX11_join 19 = .ok (.astore 6, 2) := by decide +kernel
theorem dX11_join_21 : decode cX11_join 21 = .ok (.aload 4, 2) := by decide +kernel
theorem dX11_join_23 : decode cX11_join 23 = .ok (.ifnull 13, 3) := by decide +kernel
theorem dX11_join_26 : decode cX11_join 26 = .ok (.aload 5, 2) := by decide +kernel
theorem dX11_join_28 : decode cX11_join 28 = .ok (.ifnull 8, 3) := by decide +kernel
theorem dX11_join_31 : decode cX11_join 31 = .ok (.aload 6, 2) := by decide +kernel
theorem dX11_join_33 : decode cX11_join 33 = .ok (.ifnonnull 6, 3) := by decide +kernel
theorem dX11_join_36 : decode cX11_join 36 = .ok (.bipush (-2), 2) := by decide +kernel
theorem dX11_join_38 : decode cX11_join 38 = .ok (.ireturn, 1) := by decide +kernel
theorem dX11_join_39 : decode cX11_join 39 = .ok (.aload_n 0, 1) := by decide +kernel
theorem dX11_join_40 : decode cX11_join 40 = .ok (.getfield 57, 3) := by decide +kernel
theorem dX11_join_43 : decode cX11_join 43 = .ok (.aload 4, 2) := by decide +kernel
theorem dX11_join_45 : decode cX11_join 45 = .ok (.aload 5, 2) := by decide +kernel
theorem dX11_join_47 : decode cX11_join 47 = .ok (.aload 6, 2) := by decide +kernel
theorem dX11_join_49 : decode cX11_join 49 = .ok (.invokevirtual 184, 3) := by decide +kernel
theorem dX11_join_52 : decode cX11_join 52 = .ok (.ireturn, 1) := by decide +kernel
theorem dX11_left_0 : decode cX11_left 0 = .ok (.aload_n 0, 1) := by decide +kernel
theorem dX11_left_1 : decode cX11_left 1 = .ok (.iload_n 1, 1) := by decide +kernel
theorem dX11_left_2 : decode cX11_left 2 = .ok (.invokevirtual 136, 3) := by decide +kernel
theorem dX11_left_5 : decode cX11_left 5 = .ok (.astore 4, 2) := by decide +kernel
theorem dX11_left_7 : decode cX11_left 7 = .ok (.aload_n 0, 1) := by decide +kernel
theorem dX11_left_8 : decode cX11_left 8 = .ok (.iload_n 2, 1) := by decide +kernel
theorem dX11_left_9 : decode cX11_left 9 = .ok (.invokevirtual 136, 3) := by decide +kernel
theorem dX11_left_12 : decode cX11_left 12 = .ok (.astore 5, 2) := by decide +kernel
theorem dX11_left_14 : decode cX11_left 14 = .ok (.aload_n 0, 1) := by decide +kernel
theorem dX11_left_15 : decode cX11_left 15 = .ok (.iload_n 3, 1) := by decide +kernel
theorem dX11_left_16 : decode cX11_left 16 = .ok (.invokevirtual 136, 3) := by decide +kernel
theorem dX11_left_19 : decode cX11_left 19 = .ok (.astore 6, 2) := by decide +kernel
theorem dX11_left_21 : decode cX11_left 21 = .ok (.aload 4, 2) := by decide +kernel
theorem dX11_left_23 : decode cX11_left 23 = .ok (.ifnull 13, 3) := by decide +kernel
theorem dX11_left_26 : decode cX11_left 26 = .ok (.aload 5, 2) := by decide +kernel
theorem dX11_left_28 : decode cX11_left 28 = .ok (.ifnull 8, 3) := by decide +kernel
theorem dX11_left_31 : decode cX11_left 31 = .ok (.aload 6, 2) := by decide +kernel
theorem dX11_left_33 : decode cX11_left 33 = .ok (.ifnonnull 6, 3) := by decide +kernel
theorem dX11_left_36 : decode cX11_left 36 = .ok (.bipush (-2), 2) := by decide +kernel
theorem dX11_left_38 : decode cX11_left 38 = .ok (.ireturn, 1) := by decide +kernel
theorem dX11_left_39 : decode cX11_left 39 = .ok (.aload_n 0, 1) := by decide +kernel
theorem dX11_left_40 : decode cX11_left 40 = .ok (.getfield 57, 3) := by decide +kernel
theorem dX11_left_43 : decode cX11_left 43 = .ok (.aload 4, 2) := by decide +kernel
theorem dX11_left_45 : decode cX11_left 45 = .ok (.aload 5, 2) := by decide +kernel
theorem dX11_left_47 : decode cX11_left 47 = .ok (.aload 6, 2) := by decide +kernel
theorem dX11_left_49 : decode cX11_left 49 = .ok (.invokevirtual 188, 3) := by decide +kernel
theorem dX11_left_52 : decode cX11_left 52 = .ok (.ireturn, 1) := by decide +kernel
theorem dX11_shared_0 : decode cX11_shared 0 = .ok (.aload_n 0, 1) := by decide +kernel
theorem dX11_shared_1 : decode cX11_shared 1 = .ok (.iload_n 1, 1) := by decide +kernel
theorem dX11_shared_2 : decode cX11_shared 2 = .ok (.invokevirtual 136, 3) := by decide +kernel
theorem dX11_shared_5 : decode cX11_shared 5 = .ok (.astore 4, 2) := by decide +kernel
theorem dX11_shared_7 : decode cX11_shared 7 = .ok (.aload_n 0, 1) := by decide +kernel
theorem dX11_shared_8 : decode cX11_shared 8 = .ok (.iload_n 2, 1) := by decide +kernel
theorem dX11_shared_9 : decode cX11_shared 9 = .ok (.invokevirtual 136, 3) := by decide +kernel
theorem dX11_shared_12 : decode cX11_shared 12 = .ok (.astore 5, 2) := by decide +kernel
theorem dX11_shared_14 : decode cX11_shared 14 = .ok (.aload_n 0, 1) := by decide +kernel
theorem dX11_shared_15 : decode cX11_shared 15 = .ok (.iload_n 3, 1) := by decide +kernel
theorem dX11_shared_16 : decode cX11_shared 16 = .ok (.invokevirtual 136, 3) := by decide +kernel
theorem dX11_shared_19 : decode cX11_shared 19 = .ok (.astore 6, 2) := by decide +kernel
theorem dX11_shared_21 : decode cX11_shared 21 = .ok (.aload 4, 2) := by decide +kernel
theorem dX11_shared_23 : decode cX11_shared 23 = .ok (.ifnull 13, 3) := by decide +kernel
theorem dX11_shared_26 : decode cX11_shared 26 = .ok (.aload 5, 2) := by decide +kernel
theorem dX11_shared_28 : decode cX11_shared 28 = .ok (.ifnull 8, 3) := by decide +kernel
theorem dX11_shared_31 : decode cX11_shared 31 = .ok (.aload 6, 2) := by decide +kernel
theorem dX11_shared_33 : decode cX11_shared 33 = .ok (.ifnonnull 6, 3) := by decide +kernel
theorem dX11_shared_36 : decode cX11_shared 36 = .ok (.bipush (-2), 2) := by decide +kernel
theorem dX11_shared_38 : decode cX11_shared 38 = .ok (.ireturn, 1) := by decide +kernel
theorem dX11_shared_39 : decode cX11_shared 39 = .ok (.aload_n 0, 1) := by decide +kernel
theorem dX11_shared_40 : decode cX11_shared 40 = .ok (.getfield 57, 3) := by decide +kernel
theorem dX11_shared_43 : decode cX11_shared 43 = .ok (.aload 4, 2) := by decide +kernel
theorem dX11_shared_45 : decode cX11_shared 45 = .ok (.aload 5, 2) := by decide +kernel
theorem dX11_shared_47 : decode cX11_shared 47 = .ok (.aload 6, 2) := by decide +kernel
theorem dX11_shared_49 : decode cX11_shared 49 = .ok (.invokevirtual 191, 3) := by decide +kernel
theorem dX11_shared_52 : decode cX11_shared 52 = .ok (.ireturn, 1) := by decide +kernel
theorem dX11_both_0 : decode cX11_both 0 = .ok (.aload_n 0, 1) := by decide +kernel
theorem dX11_both_1 : decode cX11_both 1 = .ok (.iload_n 1, 1) := by decide +kernel
theorem dX11_both_2 : decode cX11_both 2 = .ok (.invokevirtual 136, 3) := by decide +kernel
theorem dX11_both_5 : decode cX11_both 5 = .ok (.astore 4, 2) := by decide +kernel
theorem dX11_both_7 : decode cX11_both 7 = .ok (.aload_n 0, 1) := by decide +kernel
theorem dX11_both_8 : decode cX11_both 8 = .ok (.iload_n 2, 1) := by decide +kernel
theorem dX11_both_9 : decode cX11_both 9 = .ok (.invokevirtual 136, 3) := by decide +kernel
theorem dX11_both_12 : decode cX11_both 12 = .ok (.astore 5, 2) := by decide +kernel
theorem dX11_both_14 : decode cX11_both 14 = .ok (.aload_n 0, 1) := by decide +kernel
theorem dX11_both_15 : decode cX11_both 15 = .ok (.iload_n 3, 1) := by decide +kernel
theorem dX11_both_16 : decode cX11_both 16 = .ok (.invokevirtual 136, 3) := by decide +kernel
theorem dX11_both_19 : decode cX11_both 19 = .ok (.astore 6, 2) := by decide +kernel
theorem dX11_both_21 : decode cX11_both 21 = .ok (.aload 4, 2) := by decide +kernel
theorem dX11_both_23 : decode cX11_both 23 = .ok (.ifnull 13, 3) := by decide +kernel
theorem dX11_both_26 : decode cX11_both 26 = .ok (.aload 5, 2) := by decide +kernel
theorem dX11_both_28 : decode cX11_both 28 = .ok (.ifnull 8, 3) := by decide +kernel
theorem dX11_both_31 : decode cX11_both 31 = .ok (.aload 6, 2) := by decide +kernel
theorem dX11_both_33 : decode cX11_both 33 = .ok (.ifnonnull 6, 3) := by decide +kernel
theorem dX11_both_36 : decode cX11_both 36 = .ok (.bipush (-2), 2) := by decide +kernel
theorem dX11_both_38 : decode cX11_both 38 = .ok (.ireturn, 1) := by decide +kernel
theorem dX11_both_39 : decode cX11_both 39 = .ok (.aload_n 0, 1) := by decide +kernel
theorem dX11_both_40 : decode cX11_both 40 = .ok (.getfield 57, 3) := by decide +kernel
theorem dX11_both_43 : decode cX11_both 43 = .ok (.aload 4, 2) := by decide +kernel
theorem dX11_both_45 : decode cX11_both 45 = .ok (.aload 5, 2) := by decide +kernel
theorem dX11_both_47 : decode cX11_both 47 = .ok (.aload 6, 2) := by decide +kernel
theorem dX11_both_49 : decode cX11_both 49 = .ok (.invokevirtual 194, 3) := by decide +kernel
theorem dX11_both_52 : decode cX11_both 52 = .ok (.ireturn, 1) := by decide +kernel
theorem dX11_mirror_0 : decode cX11_mirror 0 = .ok (.aload_n 0, 1) := by decide +kernel
theorem dX11_mirror_1 : decode cX11_mirror 1 = .ok (.iload_n 1, 1) := by decide +kernel
theorem dX11_mirror_2 : decode cX11_mirror 2 = .ok (.invokevirtual 136, 3) := by decide +kernel
theorem dX11_mirror_5 : decode cX11_mirror 5 = .ok (.astore_n 2, 1) := by decide +kernel
theorem dX11_mirror_6 : decode cX11_mirror 6 = .ok (.aload_n 2, 1) := by decide +kernel
theorem dX11_mirror_7 : decode cX11_mirror 7 = .ok (.ifnonnull 6, 3) := by decide +kernel
theorem dX11_mirror_10 : decode cX11_mirror 10 = .ok (.bipush (-2), 2) := by decide +kernel
theorem dX11_mirror_12 : decode cX11_mirror 12 = .ok (.ireturn, 1) := by decide +kernel
theorem dX11_mirror_13 : decode cX11_mirror 13 = .ok (.aload_n 2, 1) := by decide +kernel
theorem dX11_mirror_14 : decode cX11_mirror 14 = .ok (.invokevirtual 197, 3) := by decide +kernel
theorem dX11_mirror_17 : decode cX11_mirror 17 = .ok (.aload_n 2, 1) := by decide +kernel
theorem dX11_mirror_18 : decode cX11_mirror 18 = .ok (.invokevirtual 142, 3) := by decide +kernel
theorem dX11_mirror_21 : decode cX11_mirror 21 = .ok (.ireturn, 1) := by decide +kernel
theorem dX11_part_0 : decode cX11_part 0 = .ok (.aload_n 0, 1) := by decide +kernel
theorem dX11_part_1 : decode cX11_part 1 = .ok (.iload_n 1, 1) := by decide +kernel
theorem dX11_part_2 : decode cX11_part 2 = .ok (.invokevirtual 136, 3) := by decide +kernel
theorem dX11_part_5 : decode cX11_part 5 = .ok (.astore_n 3, 1) := by decide +kernel
theorem dX11_part_6 : decode cX11_part 6 = .ok (.aload_n 3, 1) := by decide +kernel
theorem dX11_part_7 : decode cX11_part 7 = .ok (.ifnonnull 6, 3) := by decide +kernel
theorem dX11_part_10 : decode cX11_part 10 = .ok (.bipush (-2), 2) := by decide +kernel
theorem dX11_part_12 : decode cX11_part 12 = .ok (.ireturn, 1) := by decide +kernel
theorem dX11_part_13 : decode cX11_part 13 = .ok (.iload_n 2, 1) := by decide +kernel
theorem dX11_part_14 : decode cX11_part 14 = .ok (.iconst (-1), 1) := by decide +kernel
theorem dX11_part_15 : decode cX11_part 15 = .ok (.if_icmp .ge 8, 3) := by decide +kernel
theorem dX11_part_18 : decode cX11_part 18 = .ok (.bipush (-3), 2) := by decide +kernel
theorem dX11_part_20 : decode cX11_part 20 = .ok (.goto 12, 3) := by decide +kernel
theorem dX11_part_23 : decode cX11_part 23 = .ok (.aload_n 0, 1) := by decide +kernel
theorem dX11_part_24 : decode cX11_part 24 = .ok (.getfield 48, 3) := by decide +kernel
theorem dX11_part_27 : decode cX11_part 27 = .ok (.aload_n 3, 1) := by decide +kernel
theorem dX11_part_28 : decode cX11_part 28 = .ok (.iload_n 2, 1) := by decide +kernel
theorem dX11_part_29 : decode cX11_part 29 = .ok (.invokevirtual 200, 3) := by decide +kernel
theorem dX11_part_32 : decode cX11_part 32 = .ok (.ireturn, 1) := by decide +kernel
theorem dX11_root_0 : decode cX11_root 0 = .ok (.aload_n 0, 1) := by decide +kernel
theorem dX11_root_1 : decode cX11_root 1 = .ok (.iload_n 1, 1) := by decide +kernel
theorem dX11_root_2 : decode cX11_root 2 = .ok (.invokevirtual 136, 3) := by decide +kernel
theorem dX11_root_5 : decode cX11_root 5 = .ok (.astore_n 2, 1) := by decide +kernel
theorem dX11_root_6 : decode cX11_root 6 = .ok (.aload_n 2, 1) := by decide +kernel
theorem dX11_root_7 : decode cX11_root 7 = .ok (.ifnonnull 6, 3) := by decide +kernel
theorem dX11_root_10 : decode cX11_root 10 = .ok (.bipush (-2), 2) := by decide +kernel
theorem dX11_root_12 : decode cX11_root 12 = .ok (.ireturn, 1) := by decide +kernel
theorem dX11_root_13 : decode cX11_root 13 = .ok (.aload_n 0, 1) := by decide +kernel
theorem dX11_root_14 : decode cX11_root 14 = .ok (.getfield 48, 3) := by decide +kernel
theorem dX11_root_17 : decode cX11_root 17 = .ok (.aload_n 2, 1) := by decide +kernel
theorem dX11_root_18 : decode cX11_root 18 = .ok (.invokevirtual 203, 3) := by decide +kernel
theorem dX11_root_21 : decode cX11_root 21 = .ok (.ireturn, 1) := by decide +kernel
theorem dX11_circle_0 : decode cX11_circle 0 = .ok (.aload_n 0, 1) := by decide +kernel
theorem dX11_circle_1 : decode cX11_circle 1 = .ok (.iload_n 1, 1) := by decide +kernel
theorem dX11_circle_2 : decode cX11_circle 2 = .ok (.invokevirtual 136, 3) := by decide +kernel
theorem dX11_circle_5 : decode cX11_circle 5 = .ok (.astore_n 2, 1) := by decide +kernel
theorem dX11_circle_6 : decode cX11_circle 6 = .ok (.aload_n 2, 1) := by decide +kernel
theorem dX11_circle_7 : decode cX11_circle 7 = .ok (.ifnonnull 6, 3) := by decide +kernel
theorem dX11_circle_10 : decode cX11_circle 10 = .ok (.bipush (-2), 2) := by decide +kernel
theorem dX11_circle_12 : decode cX11_circle 12 = .ok (.ireturn, 1) := by decide +kernel
theorem dX11_circle_13 : decode cX11_circle 13 = .ok (.aload_n 2, 1) := by decide +kernel
theorem dX11_circle_14 : decode cX11_circle 14 = .ok (.invokevirtual 142, 3) := by decide +kernel
theorem dX11_circle_17 : decode cX11_circle 17 = .ok (.bipush 12, 2) := by decide +kernel
theorem dX11_circle_19 : decode cX11_circle 19 = .ok (.if_icmp .le 6, 3) := by decide +kernel
theorem dX11_circle_22 : decode cX11_circle 22 = .ok (.bipush (-3), 2) := by decide +kernel
theorem dX11_circle_24 : decode cX11_circle 24 = .ok (.ireturn, 1) := by decide +kernel
theorem dX11_circle_25 : decode cX11_circle 25 = .ok (.aload_n 0, 1) := by decide +kernel
theorem dX11_circle_26 : decode cX11_circle 26 = .ok (.getfield 73, 3) := by decide +kernel
theorem dX11_circle_29 : decode cX11_circle 29 = .ok (.aload_n 2, 1) := by decide +kernel
theorem dX11_circle_30 : decode cX11_circle 30 = .ok (.invokevirtual 207, 3) := by decide +kernel
theorem dX11_circle_33 : decode cX11_circle 33 = .ok (.ifCond .eq 13, 3) := by decide +kernel
theorem dX11_circle_36 : decode cX11_circle 36 = .ok (.aload_n 0, 1) := by decide +kernel
theorem dX11_circle_37 : decode cX11_circle 37 = .ok (.getfield 73, 3) := by decide +kernel
theorem dX11_circle_40 : decode cX11_circle 40 = .ok (.invokevirtual 208, 3) := by decide +kernel
theorem dX11_circle_43 : decode cX11_circle 43 = .ok (.goto 5, 3) := by decide +kernel
theorem dX11_circle_46 : decode cX11_circle 46 = .ok (.bipush (-6), 2) := by decide +kernel
theorem dX11_circle_48 : decode cX11_circle 48 = .ok (.ireturn, 1) := by decide +kernel
theorem dX11_turned_0 : decode cX11_turned 0 = .ok (.aload_n 0, 1) := by decide +kernel
theorem dX11_turned_1 : decode cX11_turned 1 = .ok (.iload_n 1, 1) := by decide +kernel
theorem dX11_turned_2 : decode cX11_turned 2 = .ok (.invokevirtual 136, 3) := by decide +kernel
theorem dX11_turned_5 : decode cX11_turned 5 = .ok (.astore_n 3, 1) := by decide +kernel
theorem dX11_turned_6 : decode cX11_turned 6 = .ok (.aload_n 0, 1) := by decide +kernel
theorem dX11_turned_7 : decode cX11_turned 7 = .ok (.iload_n 2, 1) := by decide +kernel
theorem dX11_turned_8 : decode cX11_turned 8 = .ok (.invokevirtual 136, 3) := by decide +kernel
theorem dX11_turned_11 : decode cX11_turned 11 = .ok (.astore 4, 2) := by decide +kernel
theorem dX11_turned_13 : decode cX11_turned 13 = .ok (.aload_n 3, 1) := by decide +kernel
theorem dX11_turned_14 : decode cX11_turned 14 = .ok (.ifnull 8, 3) := by decide +kernel
theorem dX11_turned_17 : decode cX11_turned 17 = .ok (.aload 4, 2) := by decide +kernel
theorem dX11_turned_19 : decode cX11_turned 19 = .ok (.ifnonnull 6, 3) := by decide +kernel
theorem dX11_turned_22 : decode cX11_turned 22 = .ok (.bipush (-2), 2) := by decide +kernel
theorem dX11_turned_24 : decode cX11_turned 24 = .ok (.ireturn, 1) := by decide +kernel
theorem dX11_turned_25 : decode cX11_turned 25 = .ok (.aload_n 3, 1) := by decide +kernel
theorem dX11_turned_26 : decode cX11_turned 26 = .ok (.invokevirtual 142, 3) := by decide +kernel
theorem dX11_turned_29 : decode cX11_turned 29 = .ok (.bipush 12, 2) := by decide +kernel
theorem dX11_turned_31 : decode cX11_turned 31 = .ok (.if_icmp .le 6, 3) := by decide +kernel
theorem dX11_turned_34 : decode cX11_turned 34 = .ok (.bipush (-3), 2) := by decide +kernel
theorem dX11_turned_36 : decode cX11_turned 36 = .ok (.ireturn, 1) := by decide +kernel
theorem dX11_turned_37 : decode cX11_turned 37 = .ok (.aload_n 0, 1) := by decide +kernel
theorem dX11_turned_38 : decode cX11_turned 38 = .ok (.getfield 73, 3) := by decide +kernel
theorem dX11_turned_41 : decode cX11_turned 41 = .ok (.aload_n 3, 1) := by decide +kernel
theorem dX11_turned_42 : decode cX11_turned 42 = .ok (.invokevirtual 207, 3) := by decide +kernel
theorem dX11_turned_45 : decode cX11_turned 45 = .ok (.ifCond .eq 18, 3) := by decide +kernel
theorem dX11_turned_48 : decode cX11_turned 48 = .ok (.aload_n 0, 1) := by decide +kernel
theorem dX11_turned_49 : decode cX11_turned 49 = .ok (.getfield 73, 3) := by decide +kernel
theorem dX11_turned_52 : decode cX11_turned 52 = .ok (.aload 4, 2) := by decide +kernel
theorem dX11_turned_54 : decode cX11_turned 54 = .ok (.invokevirtual 209, 3) := by decide +kernel
theorem dX11_turned_57 : decode cX11_turned 57 = .ok (.invokestatic 128, 3) := by decide +kernel
theorem dX11_turned_60 : decode cX11_turned 60 = .ok (.goto 5, 3) := by decide +kernel
theorem dX11_turned_63 : decode cX11_turned 63 = .ok (.bipush (-6), 2) := by decide +kernel
theorem dX11_turned_65 : decode cX11_turned 65 = .ok (.ireturn, 1) := by decide +kernel
theorem dX11_together_0 : decode cX11_together 0 = .ok (.iload_n 1, 1) := by decide +kernel
theorem dX11_together_1 : decode cX11_together 1 = .ok (.ifCond .lt 9, 3) := by decide +kernel
theorem dX11_together_4 : decode cX11_together 4 = .ok (.iload_n 1, 1) := by decide +kernel
theorem dX11_together_5 : decode cX11_together 5 = .ok (.bipush 6, 2) := by decide +kernel
theorem dX11_together_7 : decode cX11_together 7 = .ok (.if_icmp .le 8, 3) := by decide +kernel
theorem dX11_together_10 : decode cX11_together 10 = .ok (.bipush (-3), 2) := by decide +kernel
theorem dX11_together_12 : decode cX11_together 12 = .ok (.goto 11, 3) := by decide +kernel
theorem dX11_together_15 : decode cX11_together 15 = .ok (.aload_n 0, 1) := by decide +kernel
theorem dX11_together_16 : decode cX11_together 16 = .ok (.getfield 12, 3) := by decide +kernel
theorem dX11_together_19 : decode cX11_together 19 = .ok (.iload_n 1, 1) := by decide +kernel
theorem dX11_together_20 : decode cX11_together 20 = .ok (.invokevirtual 212, 3) := by decide +kernel
theorem dX11_together_23 : decode cX11_together 23 = .ok (.ireturn, 1) := by decide +kernel
theorem dX11_many_0 : decode cX11_many 0 = .ok (.iload_n 1, 1) := by decide +kernel
theorem dX11_many_1 : decode cX11_many 1 = .ok (.ifCond .lt 9, 3) := by decide +kernel
theorem dX11_many_4 : decode cX11_many 4 = .ok (.iload_n 1, 1) := by decide +kernel
theorem dX11_many_5 : decode cX11_many 5 = .ok (.bipush 60, 2) := by decide +kernel
theorem dX11_many_7 : decode cX11_many 7 = .ok (.if_icmp .le 8, 3) := by decide +kernel
theorem dX11_many_10 : decode cX11_many 10 = .ok (.bipush (-3), 2) := by decide +kernel
theorem dX11_many_12 : decode cX11_many 12 = .ok (.goto 11, 3) := by decide +kernel
theorem dX11_many_15 : decode cX11_many 15 = .ok (.aload_n 0, 1) := by decide +kernel
theorem dX11_many_16 : decode cX11_many 16 = .ok (.getfield 80, 3) := by decide +kernel
theorem dX11_many_19 : decode cX11_many 19 = .ok (.iload_n 1, 1) := by decide +kernel
theorem dX11_many_20 : decode cX11_many 20 = .ok (.invokevirtual 215, 3) := by decide +kernel
theorem dX11_many_23 : decode cX11_many 23 = .ok (.ireturn, 1) := by decide +kernel
theorem dX11_of_0 : decode cX11_of 0 = .ok (.iload_n 1, 1) := by decide +kernel
theorem dX11_of_1 : decode cX11_of 1 = .ok (.ifCond .lt 17, 3) := by decide +kernel
theorem dX11_of_4 : decode cX11_of 4 = .ok (.iload_n 1, 1) := by decide +kernel
theorem dX11_of_5 : decode cX11_of 5 = .ok (.bipush 20, 2) := by decide +kernel
theorem dX11_of_7 : decode cX11_of 7 = .ok (.if_icmp .gt 11, 3) := by decide +kernel
theorem dX11_of_10 : decode cX11_of 10 = .ok (.iload_n 2, 1) := by decide +kernel
theorem dX11_of_11 : decode cX11_of 11 = .ok (.ifCond .lt 7, 3) := by decide +kernel
theorem dX11_of_14 : decode cX11_of 14 = .ok (.iload_n 3, 1) := by decide +kernel
theorem dX11_of_15 : decode cX11_of 15 = .ok (.ifCond .ge 6, 3) := by decide +kernel
theorem dX11_of_18 : decode cX11_of 18 = .ok (.bipush (-3), 2) := by decide +kernel
theorem dX11_of_20 : decode cX11_of 20 = .ok (.ireturn, 1) := by decide +kernel
theorem dX11_of_21 : decode cX11_of 21 = .ok (.aload_n 0, 1) := by decide +kernel
theorem dX11_of_22 : decode cX11_of 22 = .ok (.getfield 80, 3) := by decide +kernel
theorem dX11_of_25 : decode cX11_of 25 = .ok (.iload_n 1, 1) := by decide +kernel
theorem dX11_of_26 : decode cX11_of 26 = .ok (.iload_n 2, 1) := by decide +kernel
theorem dX11_of_27 : decode cX11_of 27 = .ok (.iload_n 3, 1) := by decide +kernel
theorem dX11_of_28 : decode cX11_of 28 = .ok (.invokevirtual 218, 3) := by decide +kernel
theorem dX11_of_31 : decode cX11_of 31 = .ok (.ireturn, 1) := by decide +kernel
theorem dX11_place_0 : decode cX11_place 0 = .ok (.aload_n 0, 1) := by decide +kernel
theorem dX11_place_1 : decode cX11_place 1 = .ok (.iload_n 1, 1) := by decide +kernel
theorem dX11_place_2 : decode cX11_place 2 = .ok (.invokevirtual 136, 3) := by decide +kernel
theorem dX11_place_5 : decode cX11_place 5 = .ok (.astore_n 2, 1) := by decide +kernel
theorem dX11_place_6 : decode cX11_place 6 = .ok (.aload_n 2, 1) := by decide +kernel
theorem dX11_place_7 : decode cX11_place 7 = .ok (.ifnonnull 6, 3) := by decide +kernel
theorem dX11_place_10 : decode cX11_place 10 = .ok (.bipush (-2), 2) := by decide +kernel
theorem dX11_place_12 : decode cX11_place 12 = .ok (.ireturn, 1) := by decide +kernel
theorem dX11_place_13 : decode cX11_place 13 = .ok (.aload_n 2, 1) := by decide +kernel
theorem dX11_place_14 : decode cX11_place 14 = .ok (.invokevirtual 142, 3) := by decide +kernel
theorem dX11_place_17 : decode cX11_place 17 = .ok (.bipush 20, 2) := by decide +kernel
theorem dX11_place_19 : decode cX11_place 19 = .ok (.if_icmp .le 6, 3) := by decide +kernel
theorem dX11_place_22 : decode cX11_place 22 = .ok (.bipush (-3), 2) := by decide +kernel
theorem dX11_place_24 : decode cX11_place 24 = .ok (.ireturn, 1) := by decide +kernel
theorem dX11_place_25 : decode cX11_place 25 = .ok (.aload_n 0, 1) := by decide +kernel
theorem dX11_place_26 : decode cX11_place 26 = .ok (.getfield 48, 3) := by decide +kernel
theorem dX11_place_29 : decode cX11_place 29 = .ok (.aload_n 2, 1) := by decide +kernel
theorem dX11_place_30 : decode cX11_place 30 = .ok (.aload_n 0, 1) := by decide +kernel
theorem dX11_place_31 : decode cX11_place 31 = .ok (.getfield 23, 3) := by decide +kernel
theorem dX11_place_34 : decode cX11_place 34 = .ok (.invokevirtual 148, 3) := by decide +kernel
theorem dX11_place_37 : decode cX11_place 37 = .ok (.aload_n 0, 1) := by decide +kernel
theorem dX11_place_38 : decode cX11_place 38 = .ok (.getfield 80, 3) := by decide +kernel
theorem dX11_place_41 : decode cX11_place 41 = .ok (.aload_n 0, 1) := by decide +kernel
theorem dX11_place_42 : decode cX11_place 42 = .ok (.getfield 23, 3) := by decide +kernel
theorem dX11_place_45 : decode cX11_place 45 = .ok (.invokevirtual 222, 3) := by decide +kernel
theorem dX11_place_48 : decode cX11_place 48 = .ok (.ireturn, 1) := by decide +kernel
theorem dX11_reader_0 : decode cX11_reader 0 = .ok (.iload_n 1, 1) := by decide +kernel
theorem dX11_reader_1 : decode cX11_reader 1 = .ok (.iconst 1, 1) := by decide +kernel
theorem dX11_reader_2 : decode cX11_reader 2 = .ok (.if_icmp .lt 19, 3) := by decide +kernel
theorem dX11_reader_5 : decode cX11_reader 5 = .ok (.iload_n 1, 1) := by decide +kernel
theorem dX11_reader_6 : decode cX11_reader 6 = .ok (.iconst 5, 1) := by decide +kernel
theorem dX11_reader_7 : decode cX11_reader 7 = .ok (.if_icmp .gt 14, 3) := by decide +kernel
theorem dX11_reader_10 : decode cX11_reader 10 = .ok (.iload_n 2, 1) := by decide +kernel
theorem dX11_reader_11 : decode cX11_reader 11 = .ok (.ifCond .lt 10, 3) := by decide +kernel
theorem dX11_reader_14 : decode cX11_reader 14 = .ok (.iload_n 2, 1) := by decide +kernel
theorem dX11_reader_15 : decode cX11_reader 15 = .ok (.iconst 1, 1) := by decide +kernel
theorem dX11_reader_16 : decode cX11_reader 16 = .ok (.iload_n 1, 1) := by decide +kernel
theorem dX11_reader_17 : decode cX11_reader 17 = .ok (.ishl, 1) := by decide +kernel
theorem dX11_reader_18 : decode cX11_reader 18 = .ok (.if_icmp .lt 6, 3) := by decide +kernel
theorem dX11_reader_21 : decode cX11_reader 21 = .ok (.bipush (-3), 2) := by decide +kernel
theorem dX11_reader_23 : decode cX11_reader 23 = .ok (.ireturn, 1) := by decide +kernel
theorem dX11_reader_24 : decode cX11_reader 24 = .ok (.aload_n 0, 1) := by decide +kernel
theorem dX11_reader_25 : decode cX11_reader 25 = .ok (.getfield 89, 3) := by decide +kernel
theorem dX11_reader_28 : decode cX11_reader 28 = .ok (.iload_n 1, 1) := by decide +kernel
theorem dX11_reader_29 : decode cX11_reader 29 = .ok (.iload_n 2, 1) := by decide +kernel
theorem dX11_reader_30 : decode cX11_reader 30 = .ok (.invokevirtual 225, 3) := by decide +kernel
theorem dX11_reader_33 : decode cX11_reader 33 = .ok (.iconst 1, 1) := by decide +kernel
theorem dX11_reader_34 : decode cX11_reader 34 = .ok (.ireturn, 1) := by decide +kernel
theorem dX11_move_0 : decode cX11_move 0 = .ok (.aload_n 0, 1) := by decide +kernel
theorem dX11_move_1 : decode cX11_move 1 = .ok (.getfield 89, 3) := by decide +kernel
theorem dX11_move_4 : decode cX11_move 4 = .ok (.iload_n 1, 1) := by decide +kernel
theorem dX11_move_5 : decode cX11_move 5 = .ok (.invokevirtual 229, 3) := by decide +kernel
theorem dX11_move_8 : decode cX11_move 8 = .ok (.ifCond .eq 14, 3) := by decide +kernel
theorem dX11_move_11 : decode cX11_move 11 = .ok (.aload_n 0, 1) := by decide +kernel
theorem dX11_move_12 : decode cX11_move 12 = .ok (.getfield 89, 3) := by decide +kernel
theorem dX11_move_15 : decode cX11_move 15 = .ok (.iload_n 3, 1) := by decide +kernel
theorem dX11_move_16 : decode cX11_move 16 = .ok (.invokevirtual 229, 3) := by decide +kernel
theorem dX11_move_19 : decode cX11_move 19 = .ok (.ifCond .ne 6, 3) := by decide +kernel
theorem dX11_move_22 : decode cX11_move 22 = .ok (.bipush (-2), 2) := by decide +kernel
theorem dX11_move_24 : decode cX11_move 24 = .ok (.ireturn, 1) := by decide +kernel
theorem dX11_move_25 : decode cX11_move 25 = .ok (.iload_n 2, 1) := by decide +kernel
theorem dX11_move_26 : decode cX11_move 26 = .ok (.ifCond .lt 9, 3) := by decide +kernel
theorem dX11_move_29 : decode cX11_move 29 = .ok (.iload_n 2, 1) := by decide +kernel
theorem dX11_move_30 : decode cX11_move 30 = .ok (.bipush 6, 2) := by decide +kernel
theorem dX11_move_32 : decode cX11_move 32 = .ok (.if_icmp .lt 6, 3) := by decide +kernel
theorem dX11_move_35 : decode cX11_move 35 = .ok (.bipush (-3), 2) := by decide +kernel
theorem dX11_move_37 : decode cX11_move 37 = .ok (.ireturn, 1) := by decide +kernel
theorem dX11_move_38 : decode cX11_move 38 = .ok (.aload_n 0, 1) := by decide +kernel
theorem dX11_move_39 : decode cX11_move 39 = .ok (.getfield 89, 3) := by decide +kernel
theorem dX11_move_42 : decode cX11_move 42 = .ok (.iload_n 1, 1) := by decide +kernel
theorem dX11_move_43 : decode cX11_move 43 = .ok (.iload_n 2, 1) := by decide +kernel
theorem dX11_move_44 : decode cX11_move 44 = .ok (.invokevirtual 230, 3) := by decide +kernel
theorem dX11_move_47 : decode cX11_move 47 = .ok (.istore 4, 2) := by decide +kernel
theorem dX11_move_49 : decode cX11_move 49 = .ok (.aload_n 0, 1) := by decide +kernel
theorem dX11_move_50 : decode cX11_move 50 = .ok (.getfield 89, 3) := by decide +kernel
theorem dX11_move_53 : decode cX11_move 53 = .ok (.iload_n 1, 1) := by decide +kernel
theorem dX11_move_54 : decode cX11_move 54 = .ok (.iload_n 2, 1) := by decide +kernel
theorem dX11_move_55 : decode cX11_move 55 = .ok (.iload_n 3, 1) := by decide +kernel
theorem dX11_move_56 : decode cX11_move 56 = .ok (.invokevirtual 234, 3) := by decide +kernel
theorem dX11_move_59 : decode cX11_move 59 = .ok (.iload 4, 2) := by decide +kernel
theorem dX11_move_61 : decode cX11_move 61 = .ok (.ireturn, 1) := by decide +kernel
theorem dX11_minds_0 : decode cX11_minds 0 = .ok (.aload_n 0, 1) := by decide +kernel
theorem dX11_minds_1 : decode cX11_minds 1 = .ok (.getfield 89, 3) := by decide +kernel
theorem dX11_minds_4 : decode cX11_minds 4 = .ok (.invokevirtual 238, 3) := by decide +kernel
theorem dX11_minds_7 : decode cX11_minds 7 = .ok (.ireturn, 1) := by decide +kernel
theorem dX11_run_0 : decode cX11_run 0 = .ok (.aload_n 0, 1) := by decide +kernel
theorem dX11_run_1 : decode cX11_run 1 = .ok (.iload_n 1, 1) := by decide +kernel
theorem dX11_run_2 : decode cX11_run 2 = .ok (.invokevirtual 136, 3) := by decide +kernel
theorem dX11_run_5 : decode cX11_run 5 = .ok (.astore_n 3, 1) := by decide +kernel
theorem dX11_run_6 : decode cX11_run 6 = .ok (.aload_n 3, 1) := by decide +kernel
theorem dX11_run_7 : decode cX11_run 7 = .ok (.ifnonnull 6, 3) := by decide +kernel
theorem dX11_run_10 : decode cX11_run 10 = .ok (.bipush (-2), 2) := by decide +kernel
theorem dX11_run_12 : decode cX11_run 12 = .ok (.ireturn, 1) := by decide +kernel
theorem dX11_run_13 : decode cX11_run 13 = .ok (.iload_n 2, 1) := by decide +kernel
theorem dX11_run_14 : decode cX11_run 14 = .ok (.ifCond .lt 8, 3) := by decide +kernel
theorem dX11_run_17 : decode cX11_run 17 = .ok (.iload_n 2, 1) := by decide +kernel
theorem dX11_run_18 : decode cX11_run 18 = .ok (.iconst 1, 1) := by decide +kernel
theorem dX11_run_19 : decode cX11_run 19 = .ok (.if_icmp .le 6, 3) := by decide +kernel
theorem dX11_run_22 : decode cX11_run 22 = .ok (.bipush (-3), 2) := by decide +kernel
theorem dX11_run_24 : decode cX11_run 24 = .ok (.ireturn, 1) := by decide +kernel
theorem dX11_run_25 : decode cX11_run 25 = .ok (.aload_n 0, 1) := by decide +kernel
theorem dX11_run_26 : decode cX11_run 26 = .ok (.getfield 48, 3) := by decide +kernel
theorem dX11_run_29 : decode cX11_run 29 = .ok (.aload_n 3, 1) := by decide +kernel
theorem dX11_run_30 : decode cX11_run 30 = .ok (.aload_n 0, 1) := by decide +kernel
theorem dX11_run_31 : decode cX11_run 31 = .ok (.getfield 23, 3) := by decide +kernel
theorem dX11_run_34 : decode cX11_run 34 = .ok (.invokevirtual 148, 3) := by decide +kernel
theorem dX11_run_37 : decode cX11_run 37 = .ok (.aload_n 0, 1) := by decide +kernel
theorem dX11_run_38 : decode cX11_run 38 = .ok (.getfield 89, 3) := by decide +kernel
theorem dX11_run_41 : decode cX11_run 41 = .ok (.aload_n 0, 1) := by decide +kernel
theorem dX11_run_42 : decode cX11_run 42 = .ok (.getfield 23, 3) := by decide +kernel
theorem dX11_run_45 : decode cX11_run 45 = .ok (.invokevirtual 241, 3) := by decide +kernel
theorem dX11_run_48 : decode cX11_run 48 = .ok (.istore 4, 2) := by decide +kernel
theorem dX11_run_50 : decode cX11_run 50 = .ok (.iload_n 2, 1) := by decide +kernel
theorem dX11_run_51 : decode cX11_run 51 = .ok (.ifCond .ne 8, 3) := by decide +kernel
theorem dX11_run_54 : decode cX11_run 54 = .ok (.iload 4, 2) := by decide +kernel
theorem dX11_run_56 : decode cX11_run 56 = .ok (.goto 15, 3) := by decide +kernel
theorem dX11_run_59 : decode cX11_run 59 = .ok (.aload_n 0, 1) := by decide +kernel
theorem dX11_run_60 : decode cX11_run 60 = .ok (.getfield 89, 3) := by decide +kernel
theorem dX11_run_63 : decode cX11_run 63 = .ok (.iload 4, 2) := by decide +kernel
theorem dX11_run_65 : decode cX11_run 65 = .ok (.invokevirtual 244, 3) := by decide +kernel
theorem dX11_run_68 : decode cX11_run 68 = .ok (.invokestatic 128, 3) := by decide +kernel
theorem dX11_run_71 : decode cX11_run 71 = .ok (.ireturn, 1) := by decide +kernel
theorem dX11_taken_0 : decode cX11_taken 0 = .ok (.iload_n 1, 1) := by decide +kernel
theorem dX11_taken_1 : decode cX11_taken 1 = .ok (.ifCond .lt 9, 3) := by decide +kernel
theorem dX11_taken_4 : decode cX11_taken 4 = .ok (.iload_n 1, 1) := by decide +kernel
theorem dX11_taken_5 : decode cX11_taken 5 = .ok (.bipush 60, 2) := by decide +kernel
theorem dX11_taken_7 : decode cX11_taken 7 = .ok (.if_icmp .le 8, 3) := by decide +kernel
theorem dX11_taken_10 : decode cX11_taken 10 = .ok (.bipush (-3), 2) := by decide +kernel
theorem dX11_taken_12 : decode cX11_taken 12 = .ok (.goto 11, 3) := by decide +kernel
theorem dX11_taken_15 : decode cX11_taken 15 = .ok (.aload_n 0, 1) := by decide +kernel
theorem dX11_taken_16 : decode cX11_taken 16 = .ok (.getfield 89, 3) := by decide +kernel
theorem dX11_taken_19 : decode cX11_taken 19 = .ok (.iload_n 1, 1) := by decide +kernel
theorem dX11_taken_20 : decode cX11_taken 20 = .ok (.invokevirtual 247, 3) := by decide +kernel
theorem dX11_taken_23 : decode cX11_taken 23 = .ok (.ireturn, 1) := by decide +kernel
theorem dX11_count_0 : decode cX11_count 0 = .ok (.iload_n 1, 1) := by decide +kernel
theorem dX11_count_1 : decode cX11_count 1 = .ok (.tableswitch 51 0 2 #[27, 35, 43], 27) := by decide +kernel
theorem dX11_count_28 : decode cX11_count 28 = .ok (.aload_n 0, 1) := by decide +kernel
theorem dX11_count_29 : decode cX11_count 29 = .ok (.getfield 12, 3) := by decide +kernel
theorem dX11_count_32 : decode cX11_count 32 = .ok (.invokevirtual 106, 3) := by decide +kernel
theorem dX11_count_35 : decode cX11_count 35 = .ok (.ireturn, 1) := by decide +kernel
theorem dX11_count_36 : decode cX11_count 36 = .ok (.aload_n 0, 1) := by decide +kernel
theorem dX11_count_37 : decode cX11_count 37 = .ok (.getfield 12, 3) := by decide +kernel
theorem dX11_count_40 : decode cX11_count 40 = .ok (.invokevirtual 250, 3) := by decide +kernel
theorem dX11_count_43 : decode cX11_count 43 = .ok (.ireturn, 1) := by decide +kernel
theorem dX11_count_44 : decode cX11_count 44 = .ok (.aload_n 0, 1) := by decide +kernel
theorem dX11_count_45 : decode cX11_count 45 = .ok (.getfield 30, 3) := by decide +kernel
theorem dX11_count_48 : decode cX11_count 48 = .ok (.invokevirtual 93, 3) := by decide +kernel
theorem dX11_count_51 : decode cX11_count 51 = .ok (.ireturn, 1) := by decide +kernel
theorem dX11_count_52 : decode cX11_count 52 = .ok (.aload_n 0, 1) := by decide +kernel
theorem dX11_count_53 : decode cX11_count 53 = .ok (.iload_n 1, 1) := by decide +kernel
theorem dX11_count_54 : decode cX11_count 54 = .ok (.ifCond .ge 7, 3) := by decide +kernel
theorem dX11_count_57 : decode cX11_count 57 = .ok (.iconst (-1), 1) := by decide +kernel
theorem dX11_count_58 : decode cX11_count 58 = .ok (.goto 6, 3) := by decide +kernel
theorem dX11_count_61 : decode cX11_count 61 = .ok (.iload_n 1, 1) := by decide +kernel
theorem dX11_count_62 : decode cX11_count 62 = .ok (.iconst 3, 1) := by decide +kernel
theorem dX11_count_63 : decode cX11_count 63 = .ok (.isub, 1) := by decide +kernel
theorem dX11_count_64 : decode cX11_count 64 = .ok (.invokevirtual 136, 3) := by decide +kernel
theorem dX11_count_67 : decode cX11_count 67 = .ok (.astore_n 2, 1) := by decide +kernel
theorem dX11_count_68 : decode cX11_count 68 = .ok (.aload_n 2, 1) := by decide +kernel
theorem dX11_count_69 : decode cX11_count 69 = .ok (.ifnonnull 8, 3) := by decide +kernel
theorem dX11_count_72 : decode cX11_count 72 = .ok (.bipush (-3), 2) := by decide +kernel
theorem dX11_count_74 : decode cX11_count 74 = .ok (.goto 7, 3) := by decide +kernel
theorem dX11_count_77 : decode cX11_count 77 = .ok (.aload_n 2, 1) := by decide +kernel
theorem dX11_count_78 : decode cX11_count 78 = .ok (.invokevirtual 142, 3) := by decide +kernel
theorem dX11_count_81 : decode cX11_count 81 = .ok (.ireturn, 1) := by decide +kernel
theorem dX11_yes_0 : decode cX11_yes 0 = .ok (.iload_n 0, 1) := by decide +kernel
theorem dX11_yes_1 : decode cX11_yes 1 = .ok (.ifCond .eq 7, 3) := by decide +kernel
theorem dX11_yes_4 : decode cX11_yes 4 = .ok (.iconst 1, 1) := by decide +kernel
theorem dX11_yes_5 : decode cX11_yes 5 = .ok (.goto 4, 3) := by decide +kernel
theorem dX11_yes_8 : decode cX11_yes 8 = .ok (.iconst 0, 1) := by decide +kernel
theorem dX11_yes_9 : decode cX11_yes 9 = .ok (.ireturn, 1) := by decide +kernel
theorem dX11_heapAt_0 : decode cX11_heapAt 0 = .ok (.iload_n 1, 1) := by decide +kernel
theorem dX11_heapAt_1 : decode cX11_heapAt 1 = .ok (.ifCond .lt 21, 3) := by decide +kernel
theorem dX11_heapAt_4 : decode cX11_heapAt 4 = .ok (.iload_n 1, 1) := by decide +kernel
theorem dX11_heapAt_5 : decode cX11_heapAt 5 = .ok (.aload_n 0, 1) := by decide +kernel
theorem dX11_heapAt_6 : decode cX11_heapAt 6 = .ok (.getfield 18, 3) := by decide +kernel
theorem dX11_heapAt_9 : decode cX11_heapAt 9 = .ok (.arraylength, 1) := by decide +kernel
theorem dX11_heapAt_10 : decode cX11_heapAt 10 = .ok (.if_icmp .ge 12, 3) := by decide +kernel
theorem dX11_heapAt_13 : decode cX11_heapAt 13 = .ok (.aload_n 0, 1) := by decide +kernel
theorem dX11_heapAt_14 : decode cX11_heapAt 14 = .ok (.getfield 18, 3) := by decide +kernel
theorem dX11_heapAt_17 : decode cX11_heapAt 17 = .ok (.iload_n 1, 1) := by decide +kernel
theorem dX11_heapAt_18 : decode cX11_heapAt 18 = .ok (.aaload, 1) := by decide +kernel
theorem dX11_heapAt_19 : decode cX11_heapAt 19 = .ok (.goto 4, 3) := by decide +kernel
theorem dX11_heapAt_22 : decode cX11_heapAt 22 = .ok (.aconst_null, 1) := by decide +kernel
theorem dX11_heapAt_23 : decode cX11_heapAt 23 = .ok (.areturn, 1) := by decide +kernel
theorem dX11_doLine_0 : decode cX11_doLine 0 = .ok (.aload_n 1, 1) := by decide +kernel
theorem dX11_doLine_1 : decode cX11_doLine 1 = .ok (.ifnonnull 4, 3) := by decide +kernel
theorem dX11_doLine_4 : decode cX11_doLine 4 = .ok (.return_, 1) := by decide +kernel
theorem dX11_doLine_5 : decode cX11_doLine 5 = .ok (.aload_n 1, 1) := by decide +kernel
theorem dX11_doLine_6 : decode cX11_doLine 6 = .ok (.getfield 253, 3) := by decide +kernel
theorem dX11_doLine_9 : decode cX11_doLine 9 = .ok (.tableswitch 76 0 2 #[27, 46, 65], 27) := by decide +kernel
theorem dX11_doLine_36 : decode cX11_doLine 36 = .ok (.aload_n 0, 1) := by decide +kernel
theorem dX11_doLine_37 : decode cX11_doLine 37 = .ok (.getfield 12, 3) := by decide +kernel
theorem dX11_doLine_40 : decode cX11_doLine 40 = .ok (.aload_n 1, 1) := by decide +kernel
theorem dX11_doLine_41 : decode cX11_doLine 41 = .ok (.getfield 259, 3) := by decide +kernel
theorem dX11_doLine_44 : decode cX11_doLine 44 = .ok (.aload_n 1, 1) := by decide +kernel
theorem dX11_doLine_45 : decode cX11_doLine 45 = .ok (.getfield 262, 3) := by decide +kernel
theorem dX11_doLine_48 : decode cX11_doLine 48 = .ok (.iconst 1, 1) := by decide +kernel
theorem dX11_doLine_49 : decode cX11_doLine 49 = .ok (.invokevirtual 132, 3) := by decide +kernel
theorem dX11_doLine_52 : decode cX11_doLine 52 = .ok (.goto 38, 3) := by decide +kernel
theorem dX11_doLine_55 : decode cX11_doLine 55 = .ok (.aload_n 0, 1) := by decide +kernel
theorem dX11_doLine_56 : decode cX11_doLine 56 = .ok (.getfield 12, 3) := by decide +kernel
theorem dX11_doLine_59 : decode cX11_doLine 59 = .ok (.aload_n 1, 1) := by decide +kernel
theorem dX11_doLine_60 : decode cX11_doLine 60 = .ok (.getfield 259, 3) := by decide +kernel
theorem dX11_doLine_63 : decode cX11_doLine 63 = .ok (.aload_n 1, 1) := by decide +kernel
theorem dX11_doLine_64 : decode cX11_doLine 64 = .ok (.getfield 262, 3) := by decide +kernel
theorem dX11_doLine_67 : decode cX11_doLine 67 = .ok (.iconst 0, 1) := by decide +kernel
theorem dX11_doLine_68 : decode cX11_doLine 68 = .ok (.invokevirtual 132, 3) := by decide +kernel
theorem dX11_doLine_71 : decode cX11_doLine 71 = .ok (.goto 19, 3) := by decide +kernel
theorem dX11_doLine_74 : decode cX11_doLine 74 = .ok (.aload_n 0, 1) := by decide +kernel
theorem dX11_doLine_75 : decode cX11_doLine 75 = .ok (.aload_n 1, 1) := by decide +kernel
theorem dX11_doLine_76 : decode cX11_doLine 76 = .ok (.getfield 259, 3) := by decide +kernel
theorem dX11_doLine_79 : decode cX11_doLine 79 = .ok (.invokevirtual 265, 3) := by decide +kernel
theorem dX11_doLine_82 : decode cX11_doLine 82 = .ok (.goto 8, 3) := by decide +kernel
theorem dX11_doLine_85 : decode cX11_doLine 85 = .ok (.aload_n 0, 1) := by decide +kernel
theorem dX11_doLine_86 : decode cX11_doLine 86 = .ok (.aload_n 1, 1) := by decide +kernel
theorem dX11_doLine_87 : decode cX11_doLine 87 = .ok (.invokevirtual 268, 3) := by decide +kernel
theorem dX11_doLine_90 : decode cX11_doLine 90 = .ok (.return_, 1) := by decide +kernel
theorem dX11_startAnew_0 : decode cX11_startAnew 0 = .ok (.aload_n 0, 1) := by decide +kernel
theorem dX11_startAnew_1 : decode cX11_startAnew 1 = .ok (.getfield 12, 3) := by decide +kernel
theorem dX11_startAnew_4 : decode cX11_startAnew 4 = .ok (.iload_n 1, 1) := by decide +kernel
theorem dX11_startAnew_5 : decode cX11_startAnew 5 = .ok (.invokevirtual 271, 3) := by decide +kernel
theorem dX11_startAnew_8 : decode cX11_startAnew 8 = .ok (.iconst 0, 1) := by decide +kernel
theorem dX11_startAnew_9 : decode cX11_startAnew 9 = .ok (.istore_n 2, 1) := by decide +kernel
theorem dX11_startAnew_10 : decode cX11_startAnew 10 = .ok (.iload_n 2, 1) := by decide +kernel
theorem dX11_startAnew_11 : decode cX11_startAnew 11 = .ok (.aload_n 0, 1) := by decide +kernel
theorem dX11_startAnew_12 : decode cX11_startAnew 12 = .ok (.getfield 18, 3) := by decide +kernel
theorem dX11_startAnew_15 : decode cX11_startAnew 15 = .ok (.arraylength, 1) := by decide +kernel
theorem dX11_startAnew_16 : decode cX11_startAnew 16 = .ok (.if_icmp .ge 18, 3) := by decide +kernel
theorem dX11_startAnew_19 : decode cX11_startAnew 19 = .ok (.aload_n 0, 1) := by decide +kernel
theorem dX11_startAnew_20 : decode cX11_startAnew 20 = .ok (.getfield 18, 3) := by decide +kernel
theorem dX11_startAnew_23 : decode cX11_startAnew 23 = .ok (.iload_n 2, 1) := by decide +kernel
theorem dX11_startAnew_24 : decode cX11_startAnew 24 = .ok (.aaload, 1) := by decide +kernel
theorem dX11_startAnew_25 : decode cX11_startAnew 25 = .ok (.invokevirtual 145, 3) := by decide +kernel
theorem dX11_startAnew_28 : decode cX11_startAnew 28 = .ok (.iinc 2 1, 3) := by decide +kernel
theorem dX11_startAnew_31 : decode cX11_startAnew 31 = .ok (.goto (-21), 3) := by decide +kernel
theorem dX11_startAnew_34 : decode cX11_startAnew 34 = .ok (.return_, 1) := by decide +kernel
theorem dX11_tellHeap_0 : decode cX11_tellHeap 0 = .ok (.aload_n 0, 1) := by decide +kernel
theorem dX11_tellHeap_1 : decode cX11_tellHeap 1 = .ok (.aload_n 1, 1) := by decide +kernel
theorem dX11_tellHeap_2 : decode cX11_tellHeap 2 = .ok (.getfield 259, 3) := by decide +kernel
theorem dX11_tellHeap_5 : decode cX11_tellHeap 5 = .ok (.invokevirtual 136, 3) := by decide +kernel
theorem dX11_tellHeap_8 : decode cX11_tellHeap 8 = .ok (.astore_n 2, 1) := by decide +kernel
theorem dX11_tellHeap_9 : decode cX11_tellHeap 9 = .ok (.aload_n 2, 1) := by decide +kernel
theorem dX11_tellHeap_10 : decode cX11_tellHeap 10 = .ok (.ifnonnull 4, 3) := by decide +kernel
theorem dX11_tellHeap_13 : decode cX11_tellHeap 13 = .ok (.return_, 1) := by decide +kernel
theorem dX11_tellHeap_14 : decode cX11_tellHeap 14 = .ok (.aload_n 2, 1) := by decide +kernel
theorem dX11_tellHeap_15 : decode cX11_tellHeap 15 = .ok (.invokevirtual 145, 3) := by decide +kernel
theorem dX11_tellHeap_18 : decode cX11_tellHeap 18 = .ok (.aload_n 1, 1) := by decide +kernel
theorem dX11_tellHeap_19 : decode cX11_tellHeap 19 = .ok (.getfield 273, 3) := by decide +kernel
theorem dX11_tellHeap_22 : decode cX11_tellHeap 22 = .ok (.istore_n 3, 1) := by decide +kernel
theorem dX11_tellHeap_23 : decode cX11_tellHeap 23 = .ok (.iload_n 3, 1) := by decide +kernel
theorem dX11_tellHeap_24 : decode cX11_tellHeap 24 = .ok (.aload_n 1, 1) := by decide +kernel
theorem dX11_tellHeap_25 : decode cX11_tellHeap 25 = .ok (.getfield 276, 3) := by decide +kernel
theorem dX11_tellHeap_28 : decode cX11_tellHeap 28 = .ok (.if_icmp .ge 22, 3) := by decide +kernel
theorem dX11_tellHeap_31 : decode cX11_tellHeap 31 = .ok (.aload_n 2, 1) := by decide +kernel
theorem dX11_tellHeap_32 : decode cX11_tellHeap 32 = .ok (.aload_n 0, 1) := by decide +kernel
theorem dX11_tellHeap_33 : decode cX11_tellHeap 33 = .ok (.getfield 30, 3) := by decide +kernel
theorem dX11_tellHeap_36 : decode cX11_tellHeap 36 = .ok (.iload_n 3, 1) := by decide +kernel
theorem dX11_tellHeap_37 : decode cX11_tellHeap 37 = .ok (.invokevirtual 279, 3) := by decide +kernel
theorem dX11_tellHeap_40 : decode cX11_tellHeap 40 = .ok (.invokevirtual 140, 3) := by decide +kernel
theorem dX11_tellHeap_43 : decode cX11_tellHeap 43 = .ok (.pop, 1) := by decide +kernel
theorem dX11_tellHeap_44 : decode cX11_tellHeap 44 = .ok (.iinc 3 1, 3) := by decide +kernel
theorem dX11_tellHeap_47 : decode cX11_tellHeap 47 = .ok (.goto (-24), 3) := by decide +kernel
theorem dX11_tellHeap_50 : decode cX11_tellHeap 50 = .ok (.return_, 1) := by decide +kernel
theorem dX12_init_0 : decode cX12_init 0 = .ok (.aload_n 0, 1) := by decide +kernel
theorem dX12_init_1 : decode cX12_init 1 = .ok (.invokespecial 1, 3) := by decide +kernel
theorem dX12_init_4 : decode cX12_init 4 = .ok (.aload_n 0, 1) := by decide +kernel
theorem dX12_init_5 : decode cX12_init 5 = .ok (.iconst 3, 1) := by decide +kernel
theorem dX12_init_6 : decode cX12_init 6 = .ok (.putfield 7, 3) := by decide +kernel
theorem dX12_init_9 : decode cX12_init 9 = .ok (.aload_n 0, 1) := by decide +kernel
theorem dX12_init_10 : decode cX12_init 10 = .ok (.bipush 6, 2) := by decide +kernel
theorem dX12_init_12 : decode cX12_init 12 = .ok (.newarray .int, 2) := by decide +kernel
theorem dX12_init_14 : decode cX12_init 14 = .ok (.putfield 13, 3) := by decide +kernel
theorem dX12_init_17 : decode cX12_init 17 = .ok (.aload_n 0, 1) := by decide +kernel
theorem dX12_init_18 : decode cX12_init 18 = .ok (.iconst 4, 1) := by decide +kernel
theorem dX12_init_19 : decode cX12_init 19 = .ok (.newarray .int, 2) := by decide +kernel
theorem dX12_init_21 : decode cX12_init 21 = .ok (.putfield 17, 3) := by decide +kernel
theorem dX12_init_24 : decode cX12_init 24 = .ok (.aload_n 0, 1) := by decide +kernel
theorem dX12_init_25 : decode cX12_init 25 = .ok (.bipush 96, 2) := by decide +kernel
theorem dX12_init_27 : decode cX12_init 27 = .ok (.newarray .int, 2) := by decide +kernel
theorem dX12_init_29 : decode cX12_init 29 = .ok (.putfield 20, 3) := by decide +kernel
theorem dX12_init_32 : decode cX12_init 32 = .ok (.aload_n 0, 1) := by decide +kernel
theorem dX12_init_33 : decode cX12_init 33 = .ok (.sipush 160, 3) := by decide +kernel
theorem dX12_init_36 : decode cX12_init 36 = .ok (.newarray .int, 2) := by decide +kernel
theorem dX12_init_38 : decode cX12_init 38 = .ok (.putfield 23, 3) := by decide +kernel
theorem dX12_init_41 : decode cX12_init 41 = .ok (.aload_n 0, 1) := by decide +kernel
theorem dX12_init_42 : decode cX12_init 42 = .ok (.bipush 64, 2) := by decide +kernel
theorem dX12_init_44 : decode cX12_init 44 = .ok (.newarray .int, 2) := by decide +kernel
theorem dX12_init_46 : decode cX12_init 46 = .ok (.putfield 26, 3) := by decide +kernel
theorem dX12_init_49 : decode cX12_init 49 = .ok (.aload_n 0, 1) := by decide +kernel
theorem dX12_init_50 : decode cX12_init 50 = .ok (.bipush 48, 2) := by decide +kernel
theorem dX12_init_52 : decode cX12_init 52 = .ok (.newarray .int, 2) := by decide +kernel
theorem dX12_init_54 : decode cX12_init 54 = .ok (.putfield 29, 3) := by decide +kernel
theorem dX12_init_57 : decode cX12_init 57 = .ok (.aload_n 0, 1) := by decide +kernel
theorem dX12_init_58 : decode cX12_init 58 = .ok (.bipush 48, 2) := by decide +kernel
theorem dX12_init_60 : decode cX12_init 60 = .ok (.newarray .int, 2) := by decide +kernel
theorem dX12_init_62 : decode cX12_init 62 = .ok (.putfield 32, 3) := by decide +kernel
theorem dX12_init_65 : decode cX12_init 65 = .ok (.aload_n 0, 1) := by decide +kernel
theorem dX12_init_66 : decode cX12_init 66 = .ok (.bipush 48, 2) := by decide +kernel
theorem dX12_init_68 : decode cX12_init 68 = .ok (.newarray .int, 2) := by decide +kernel
theorem dX12_init_70 : decode cX12_init 70 = .ok (.putfield 35, 3) := by decide +kernel
theorem dX12_init_73 : decode cX12_init 73 = .ok (.aload_n 0, 1) := by decide +kernel
theorem dX12_init_74 : decode cX12_init 74 = .ok (.bipush 48, 2) := by decide +kernel
theorem dX12_init_76 : decode cX12_init 76 = .ok (.newarray .boolean, 2) := by decide +kernel
theorem dX12_init_78 : decode cX12_init 78 = .ok (.putfield 38, 3) := by decide +kernel
theorem dX12_init_81 : decode cX12_init 81 = .ok (.aload_n 0, 1) := by decide +kernel
theorem dX12_init_82 : decode cX12_init 82 = .ok (.sipush 576, 3) := by decide +kernel
theorem dX12_init_85 : decode cX12_init 85 = .ok (.newarray .boolean, 2) := by decide +kernel
theorem dX12_init_87 : decode cX12_init 87 = .ok (.putfield 42, 3) := by decide +kernel
theorem dX12_init_90 : decode cX12_init 90 = .ok (.aload_n 0, 1) := by decide +kernel
theorem dX12_init_91 : decode cX12_init 91 = .ok (.sipush 20001, 3) := by decide +kernel
theorem dX12_init_94 : decode cX12_init 94 = .ok (.newarray .int, 2) := by decide +kernel
theorem dX12_init_96 : decode cX12_init 96 = .ok (.putfield 45, 3) := by decide +kernel
theorem dX12_init_99 : decode cX12_init 99 = .ok (.aload_n 0, 1) := by decide +kernel
theorem dX12_init_100 : decode cX12_init 100 = .ok (.sipush 20001, 3) := by decide +kernel
theorem dX12_init_103 : decode cX12_init 103 = .ok (.newarray .long, 2) := by decide +kernel
theorem dX12_init_105 : decode cX12_init 105 = .ok (.putfield 48, 3) := by decide +kernel
theorem dX12_init_108 : decode cX12_init 108 = .ok (.aload_n 0, 1) := by decide +kernel
theorem dX12_init_109 : decode cX12_init 109 = .ok (.ldc 52, 2) := by decide +kernel
theorem dX12_init_111 : decode cX12_init 111 = .ok (.newarray .int, 2) := by decide +kernel
theorem dX12_init_113 : decode cX12_init 113 = .ok (.putfield 53, 3) := by decide +kernel
theorem dX12_init_116 : decode cX12_init 116 = .ok (.aload_n 0, 1) := by decide +kernel
theorem dX12_init_117 : decode cX12_init 117 = .ok (.bipush 6, 2) := by decide +kernel
theorem dX12_init_119 : decode cX12_init 119 = .ok (.newarray .int, 2) := by decide +kernel
theorem dX12_init_121 : decode cX12_init 121 = .ok (.putfield 56, 3) := by decide +kernel
theorem dX12_init_124 : decode cX12_init 124 = .ok (.aload_n 0, 1) := by decide +kernel
theorem dX12_init_125 : decode cX12_init 125 = .ok (.bipush 6, 2) := by decide +kernel
theorem dX12_init_127 : decode cX12_init 127 = .ok (.newarray .int, 2) := by decide +kernel
theorem dX12_init_129 : decode cX12_init 129 = .ok (.putfield 59, 3) := by decide +kernel
theorem dX12_init_132 : decode cX12_init 132 = .ok (.aload_n 0, 1) := by decide +kernel
theorem dX12_init_133 : decode cX12_init 133 = .ok (.sipush 2001, 3) := by decide +kernel
theorem dX12_init_136 : decode cX12_init 136 = .ok (.newarray .long, 2) := by decide +kernel
theorem dX12_init_138 : decode cX12_init 138 = .ok (.putfield 62, 3) := by decide +kernel
theorem dX12_init_141 : decode cX12_init 141 = .ok (.aload_n 0, 1) := by decide +kernel
theorem dX12_init_142 : decode cX12_init 142 = .ok (.sipush 1344, 3) := by decide +kernel
theorem dX12_init_145 : decode cX12_init 145 = .ok (.newarray .long, 2) := by decide +kernel
theorem dX12_init_147 : decode cX12_init 147 = .ok (.putfield 65, 3) := by decide +kernel
theorem dX12_init_150 : decode cX12_init 150 = .ok (.aload_n 0, 1) := by decide +kernel
theorem dX12_init_151 : decode cX12_init 151 = .ok (.sipush 320, 3) := by decide +kernel
theorem dX12_init_154 : decode cX12_init 154 = .ok (.newarray .long, 2) := by decide +kernel
theorem dX12_init_156 : decode cX12_init 156 = .ok (.putfield 68, 3) := by decide +kernel
theorem dX12_init_159 : decode cX12_init 159 = .ok (.aload_n 0, 1) := by decide +kernel
theorem dX12_init_160 : decode cX12_init 160 = .ok (.sipush 320, 3) := by decide +kernel
theorem dX12_init_163 : decode cX12_init 163 = .ok (.newarray .long, 2) := by decide +kernel
theorem dX12_init_165 : decode cX12_init 165 = .ok (.putfield 71, 3) := by decide +kernel
theorem dX12_init_168 : decode cX12_init 168 = .ok (.aload_n 0, 1) := by decide +kernel
theorem dX12_init_169 : decode cX12_init 169 = .ok (.bipush 61, 2) := by decide +kernel
theorem dX12_init_171 : decode cX12_init 171 = .ok (.newarray .long, 2) := by decide +kernel
theorem dX12_init_173 : decode cX12_init 173 = .ok (.putfield 74, 3) := by decide +kernel
theorem dX12_init_176 : decode cX12_init 176 = .ok (.aload_n 0, 1) := by decide +kernel
theorem dX12_init_177 : decode cX12_init 177 = .ok (.iconst 1, 1) := by decide +kernel
theorem dX12_init_178 : decode cX12_init 178 = .ok (.putfield 77, 3) := by decide +kernel
theorem dX12_init_181 : decode cX12_init 181 = .ok (.aload_n 0, 1) := by decide +kernel
theorem dX12_init_182 : decode cX12_init 182 = .ok (.bipush 30, 2) := by decide +kernel
theorem dX12_init_184 : decode cX12_init 184 = .ok (.newarray .int, 2) := by decide +kernel
theorem dX12_init_186 : decode cX12_init 186 = .ok (.putfield 80, 3) := by decide +kernel
theorem dX12_init_189 : decode cX12_init 189 = .ok (.return_, 1) := by decide +kernel
theorem dX12_in_0 : decode cX12_in 0 = .ok (.iload_n 0, 1) := by decide +kernel
theorem dX12_in_1 : decode cX12_in 1 = .ok (.iload_n 1, 1) := by decide +kernel
theorem dX12_in_2 : decode cX12_in 2 = .ok (.if_icmp .lt 12, 3) := by decide +kernel
theorem dX12_in_5 : decode cX12_in 5 = .ok (.iload_n 0, 1) := by decide +kernel
theorem dX12_in_6 : decode cX12_in 6 = .ok (.iload_n 2, 1) := by decide +kernel
theorem dX12_in_7 : decode cX12_in 7 = .ok (.if_icmp .gt 7, 3) := by decide +kernel
theorem dX12_in_10 : decode cX12_in 10 = .ok (.iconst 1, 1) := by decide +kernel
theorem dX12_in_11 : decode cX12_in 11 = .ok (.goto 4, 3) := by decide +kernel
theorem dX12_in_14 : decode cX12_in 14 = .ok (.iconst 0, 1) := by decide +kernel
theorem dX12_in_15 : decode cX12_in 15 = .ok (.ireturn, 1) := by decide +kernel
theorem dX12_isLetter_0 : decode cX12_isLetter 0 = .ok (.iload_n 1, 1) := by decide +kernel
theorem dX12_isLetter_1 : decode cX12_isLetter 1 = .ok (.iconst 0, 1) := by decide +kernel
theorem dX12_isLetter_2 : decode cX12_isLetter 2 = .ok (.aload_n 0, 1) := by decide +kernel
theorem dX12_isLetter_3 : decode cX12_isLetter 3 = .ok (.getfield 7, 3) := by decide +kernel
theorem dX12_isLetter_6 : decode cX12_isLetter 6 = .ok (.iconst 1, 1) := by decide +kernel
theorem dX12_isLetter_7 : decode cX12_isLetter 7 = .ok (.isub, 1) := by decide +kernel
theorem dX12_isLetter_8 : decode cX12_isLetter 8 = .ok (.invokestatic 83, 3) := by decide +kernel
theorem dX12_isLetter_11 : decode cX12_isLetter 11 = .ok (.ireturn, 1) := by decide +kernel
theorem dX12_isHeap_0 : decode cX12_isHeap 0 = .ok (.iload_n 0, 1) := by decide +kernel
theorem dX12_isHeap_1 : decode cX12_isHeap 1 = .ok (.iconst 0, 1) := by decide +kernel
theorem dX12_isHeap_2 : decode cX12_isHeap 2 = .ok (.iconst 3, 1) := by decide +kernel
theorem dX12_isHeap_3 : decode cX12_isHeap 3 = .ok (.invokestatic 83, 3) := by decide +kernel
theorem dX12_isHeap_6 : decode cX12_isHeap 6 = .ok (.ireturn, 1) := by decide +kernel
theorem dX12_areFree_0 : decode cX12_areFree 0 = .ok (.aload_n 0, 1) := by decide +kernel
theorem dX12_areFree_1 : decode cX12_areFree 1 = .ok (.getfield 13, 3) := by decide +kernel
theorem dX12_areFree_4 : decode cX12_areFree 4 = .ok (.iload_n 1, 1) := by decide +kernel
theorem dX12_areFree_5 : decode cX12_areFree 5 = .ok (.iaload, 1) := by decide +kernel
theorem dX12_areFree_6 : decode cX12_areFree 6 = .ok (.iload_n 2, 1) := by decide +kernel
theorem dX12_areFree_7 : decode cX12_areFree 7 = .ok (.ishr, 1) := by decide +kernel
theorem dX12_areFree_8 : decode cX12_areFree 8 = .ok (.iconst 1, 1) := by decide +kernel
theorem dX12_areFree_9 : decode cX12_areFree 9 = .ok (.iand, 1) := by decide +kernel
theorem dX12_areFree_10 : decode cX12_areFree 10 = .ok (.iconst 1, 1) := by decide +kernel
theorem dX12_areFree_11 : decode cX12_areFree 11 = .ok (.if_icmp .ne 7, 3) := by decide +kernel
theorem dX12_areFree_14 : decode cX12_areFree 14 = .ok (.iconst 1, 1) := by decide +kernel
theorem dX12_areFree_15 : decode cX12_areFree 15 = .ok (.goto 4, 3) := by decide +kernel
theorem dX12_areFree_18 : decode cX12_areFree 18 = .ok (.iconst 0, 1) := by decide +kernel
theorem dX12_areFree_19 : decode cX12_areFree 19 = .ok (.ireturn, 1) := by decide +kernel
theorem dX12_write_0 : decode cX12_write 0 = .ok (.iload_n 3, 1) := by decide +kernel
theorem dX12_write_1 : decode cX12_write 1 = .ok (.iconst 1, 1) := by decide +kernel
theorem dX12_write_2 : decode cX12_write 2 = .ok (.bipush 8, 2) := by decide +kernel
theorem dX12_write_4 : decode cX12_write 4 = .ok (.invokestatic 83, 3) := by decide +kernel
theorem dX12_write_7 : decode cX12_write 7 = .ok (.ifCond .ne 6, 3) := by decide +kernel
theorem dX12_write_10 : decode cX12_write 10 = .ok (.bipush (-3), 2) := by decide +kernel
theorem dX12_write_12 : decode cX12_write 12 = .ok (.ireturn, 1) := by decide +kernel
theorem dX12_write_13 : decode cX12_write 13 = .ok (.aload_n 0, 1) := by decide +kernel
theorem dX12_write_14 : decode cX12_write 14 = .ok (.getfield 87, 3) := by decide +kernel
theorem dX12_write_17 : decode cX12_write 17 = .ok (.iload_n 3, 1) := by decide +kernel
theorem dX12_write_18 : decode cX12_write 18 = .ok (.iadd, 1) := by decide +kernel
theorem dX12_write_19 : decode cX12_write 19 = .ok (.sipush 160, 3) := by decide +kernel
theorem dX12_write_22 : decode cX12_write 22 = .ok (.if_icmp .le 6, 3) := by decide +kernel
theorem dX12_write_25 : decode cX12_write 25 = .ok (.bipush (-5), 2) := by decide +kernel
theorem dX12_write_27 : decode cX12_write 27 = .ok (.ireturn, 1) := by decide +kernel
theorem dX12_write_28 : decode cX12_write 28 = .ok (.iconst 0, 1) := by decide +kernel
theorem dX12_write_29 : decode cX12_write 29 = .ok (.istore 4, 2) := by decide +kernel
theorem dX12_write_31 : decode cX12_write 31 = .ok (.iload 4, 2) := by decide +kernel
theorem dX12_write_33 : decode cX12_write 33 = .ok (.iload_n 3, 1) := by decide +kernel
theorem dX12_write_34 : decode cX12_write 34 = .ok (.if_icmp .ge 33, 3) := by decide +kernel
theorem dX12_write_37 : decode cX12_write 37 = .ok (.aload_n 0, 1) := by decide +kernel
theorem dX12_write_38 : decode cX12_write 38 = .ok (.getfield 23, 3) := by decide +kernel
theorem dX12_write_41 : decode cX12_write 41 = .ok (.aload_n 0, 1) := by decide +kernel
theorem dX12_write_42 : decode cX12_write 42 = .ok (.getfield 87, 3) := by decide +kernel
theorem dX12_write_45 : decode cX12_write 45 = .ok (.iload 4, 2) := by decide +kernel
theorem dX12_write_47 : decode cX12_write 47 = .ok (.iadd, 1) := by decide +kernel
theorem dX12_write_48 : decode cX12_write 48 = .ok (.lload_n 1, 1) := by decide +kernel
theorem dX12_write_49 : decode cX12_write 49 = .ok (.bipush 8, 2) := by decide +kernel
theorem dX12_write_51 : decode cX12_write 51 = .ok (.iload 4, 2) := by decide +kernel
theorem dX12_write_53 : decode cX12_write 53 = .ok (.imul, 1) := by decide +kernel
theorem dX12_write_54 : decode cX12_write 54 = .ok (.lshr, 1) := by decide +kernel
theorem dX12_write_55 : decode cX12_write 55 = .ok (.ldc2_w 90, 3) := by decide +kernel
theorem dX12_write_58 : decode cX12_write 58 = .ok (.land, 1) := by decide +kernel
theorem dX12_write_59 : decode cX12_write 59 = .ok (.l2i, 1) := by decide +kernel
theorem dX12_write_60 : decode cX12_write 60 = .ok (.iastore, 1) := by decide +kernel
theorem dX12_write_61 : decode cX12_write 61 = .ok (.iinc 4 1, 3) := by decide +kernel
theorem dX12_write_64 : decode cX12_write 64 = .ok (.goto (-33), 3) := by decide +kernel
theorem dX12_write_67 : decode cX12_write 67 = .ok (.aload_n 0, 1) := by decide +kernel
theorem dX12_write_68 : decode cX12_write 68 = .ok (.dup, 1) := by decide +kernel
theorem dX12_write_69 : decode cX12_write 69 = .ok (.getfield 87, 3) := by decide +kernel
theorem dX12_write_72 : decode cX12_write 72 = .ok (.iload_n 3, 1) := by decide +kernel
theorem dX12_write_73 : decode cX12_write 73 = .ok (.iadd, 1) := by decide +kernel
theorem dX12_write_74 : decode cX12_write 74 = .ok (.putfield 87, 3) := by decide +kernel
theorem dX12_write_77 : decode cX12_write 77 = .ok (.aload_n 0, 1) := by decide +kernel
theorem dX12_write_78 : decode cX12_write 78 = .ok (.getfield 87, 3) := by decide +kernel
theorem dX12_write_81 : decode cX12_write 81 = .ok (.ireturn, 1) := by decide +kernel
theorem dX12_erase_0 : decode cX12_erase 0 = .ok (.aload_n 0, 1) := by decide +kernel
theorem dX12_erase_1 : decode cX12_erase 1 = .ok (.getfield 87, 3) := by decide +kernel
theorem dX12_erase_4 : decode cX12_erase 4 = .ok (.istore_n 1, 1) := by decide +kernel
theorem dX12_erase_5 : decode cX12_erase 5 = .ok (.aload_n 0, 1) := by decide +kernel
theorem dX12_erase_6 : decode cX12_erase 6 = .ok (.iconst 0, 1) := by decide +kernel
theorem dX12_erase_7 : decode cX12_erase 7 = .ok (.putfield 87, 3) := by decide +kernel
theorem dX12_erase_10 : decode cX12_erase 10 = .ok (.iload_n 1, 1) := by decide +kernel
theorem dX12_erase_11 : decode cX12_erase 11 = .ok (.ireturn, 1) := by decide +kernel
theorem dX12_nextToken_0 : decode cX12_nextToken 0 = .ok (.aload_n 0, 1) := by decide +kernel
theorem dX12_nextToken_1 : decode cX12_nextToken 1 = .ok (.getfield 92, 3) := by decide +kernel
theorem dX12_nextToken_4 : decode cX12_nextToken 4 = .ok (.aload_n 0, 1) := by decide +kernel
theorem dX12_nextToken_5 : decode cX12_nextToken 5 = .ok (.getfield 87, 3) := by decide +kernel
theorem dX12_nextToken_8 : decode cX12_nextToken 8 = .ok (.if_icmp .ge 30, 3) := by decide +kernel
theorem dX12_nextToken_11 : decode cX12_nextToken 11 = .ok (.aload_n 0, 1) := by decide +kernel
theorem dX12_nextToken_12 : decode cX12_nextToken 12 = .ok (.getfield 23, 3) := by decide +kernel
theorem dX12_nextToken_15 : decode cX12_nextToken 15 = .ok (.aload_n 0, 1) := by decide +kernel
theorem dX12_nextToken_16 : decode cX12_nextToken 16 = .ok (.getfield 92, 3) := by decide +kernel
theorem dX12_nextToken_19 : decode cX12_nextToken 19 = .ok (.iaload, 1) := by decide +kernel
theorem dX12_nextToken_20 : decode cX12_nextToken 20 = .ok (.bipush 32, 2) := by decide +kernel
theorem dX12_nextToken_22 : decode cX12_nextToken 22 = .ok (.if_icmp .ne 16, 3) := by decide +kernel
theorem dX12_nextToken_25 : decode cX12_nextToken 25 = .ok (.aload_n 0, 1) := by decide +kernel
theorem dX12_nextToken_26 : decode cX12_nextToken 26 = .ok (.dup, 1) := by decide +kernel
theorem dX12_nextToken_27 : decode cX12_nextToken 27 = .ok (.getfield 92, 3) := by decide +kernel
theorem dX12_nextToken_30 : decode cX12_nextToken 30 = .ok (.iconst 1, 1) := by decide +kernel
theorem dX12_nextToken_31 : decode cX12_nextToken 31 = .ok (.iadd, 1) := by decide +kernel
theorem dX12_nextToken_32 : decode cX12_nextToken 32 = .ok (.putfield 92, 3) := by decide +kernel
theorem dX12_nextToken_35 : decode cX12_nextToken 35 = .ok (.goto (-35), 3) := by decide +kernel
theorem dX12_nextToken_38 : decode cX12_nextToken 38 = .ok (.aload_n 0, 1) := by decide +kernel
theorem dX12_nextToken_39 : decode cX12_nextToken 39 = .ok (.aload_n 0, 1) := by decide +kernel
theorem dX12_nextToken_40 : decode cX12_nextToken 40 = .ok (.getfield 92, 3) := by decide +kernel
theorem dX12_nextToken_43 : decode cX12_nextToken 43 = .ok (.putfield 95, 3) := by decide +kernel
theorem dX12_nextToken_46 : decode cX12_nextToken 46 = .ok (.aload_n 0, 1) := by decide +kernel
theorem dX12_nextToken_47 : decode cX12_nextToken 47 = .ok (.aload_n 0, 1) := by decide +kernel
theorem dX12_nextToken_48 : decode cX12_nextToken 48 = .ok (.getfield 92, 3) := by decide +kernel
theorem dX12_nextToken_51 : decode cX12_nextToken 51 = .ok (.aload_n 0, 1) := by decide +kernel
theorem dX12_nextToken_52 : decode cX12_nextToken 52 = .ok (.getfield 87, 3) := by decide +kernel
theorem dX12_nextToken_55 : decode cX12_nextToken 55 = .ok (.if_icmp .ne 7, 3) := by decide +kernel
theorem dX12_nextToken_58 : decode cX12_nextToken 58 = .ok (.iconst 0, 1) := by decide +kernel
theorem dX12_nextToken_59 : decode cX12_nextToken 59 = .ok (.goto 15, 3) := by decide +kernel
theorem dX12_nextToken_62 : decode cX12_nextToken 62 = .ok (.aload_n 0, 1) := by decide +kernel
theorem dX12_nextToken_63 : decode cX12_nextToken 63 = .ok (.getfield 23, 3) := by decide +kernel
theorem dX12_nextToken_66 : decode cX12_nextToken 66 = .ok (.aload_n 0, 1) := by decide +kernel
theorem dX12_nextToken_67 : decode cX12_nextToken 67 = .ok (.getfield 92, 3) := by decide +kernel
theorem dX12_nextToken_70 : decode cX12_nextToken 70 = .ok (.iaload, 1) := by decide +kernel
theorem dX12_nextToken_71 : decode cX12_nextToken 71 = .ok (.invokestatic 98, 3) := by decide +kernel
theorem dX12_nextToken_74 : decode cX12_nextToken 74 = .ok (.putfield 102, 3) := by decide +kernel
theorem dX12_nextToken_77 : decode cX12_nextToken 77 = .ok (.aload_n 0, 1) := by decide +kernel
theorem dX12_nextToken_78 : decode cX12_nextToken 78 = .ok (.dup, 1) := by decide +kernel
theorem dX12_nextToken_79 : decode cX12_nextToken 79 = .ok (.getfield 92, 3) := by decide +kernel
theorem dX12_nextToken_82 : decode cX12_nextToken 82 = .ok (.aload_n 0, 1) := by decide +kernel
theorem dX12_nextToken_83 : decode cX12_nextToken 83 = .ok (.getfield 102, 3) := by decide +kernel
theorem dX12_nextToken_86 : decode cX12_nextToken 86 = .ok (.ifCond .ne 7, 3) := by decide +kernel
theorem dX12_nextToken_89 : decode cX12_nextToken 89 = .ok (.iconst 0, 1) := by decide +kernel
theorem dX12_nextToken_90 : decode cX12_nextToken 90 = .ok (.goto 4, 3) := by decide +kernel
theorem dX12_nextToken_93 : decode cX12_nextToken 93 = .ok (.iconst 1, 1) := by decide +kernel
theorem dX12_nextToken_94 : decode cX12_nextToken 94 = .ok (.iadd, 1) := by decide +kernel
theorem dX12_nextToken_95 : decode cX12_nextToken 95 = .ok (.putfield 92, 3) := by decide +kernel
theorem dX12_nextToken_98 : decode cX12_nextToken 98 = .ok (.aload_n 0, 1) := by decide +kernel
theorem dX12_nextToken_99 : decode cX12_nextToken 99 = .ok (.getfield 92, 3) := by decide +kernel
theorem dX12_nextToken_102 : decode cX12_nextToken 102 = .ok (.aload_n 0, 1) := by decide +kernel
theorem dX12_nextToken_103 : decode cX12_nextToken 103 = .ok (.getfield 87, 3) := by decide +kernel
theorem dX12_nextToken_106 : decode cX12_nextToken 106 = .ok (.if_icmp .ge 50, 3) := by decide +kernel
theorem dX12_nextToken_109 : decode cX12_nextToken 109 = .ok (.aload_n 0, 1) := by decide +kernel
theorem dX12_nextToken_110 : decode cX12_nextToken 110 = .ok (.getfield 102, 3) := by decide +kernel
theorem dX12_nextToken_113 : decode cX12_nextToken 113 = .ok (.iconst 3, 1) := by decide +kernel
theorem dX12_nextToken_114 : decode cX12_nextToken 114 = .ok (.if_icmp .ge 42, 3) := by decide +kernel
theorem dX12_nextToken_117 : decode cX12_nextToken 117 = .ok (.aload_n 0, 1) := by decide +kernel
theorem dX12_nextToken_118 : decode cX12_nextToken 118 = .ok (.getfield 102, 3) := by decide +kernel
theorem dX12_nextToken_121 : decode cX12_nextToken 121 = .ok (.ifCond .le 35, 3) := by decide +kernel
theorem dX12_nextToken_124 : decode cX12_nextToken 124 = .ok (.aload_n 0, 1) := by decide +kernel
theorem dX12_nextToken_125 : decode cX12_nextToken 125 = .ok (.getfield 23, 3) := by decide +kernel
theorem dX12_nextToken_128 : decode cX12_nextToken 128 = .ok (.aload_n 0, 1) := by decide +kernel
theorem dX12_nextToken_129 : decode cX12_nextToken 129 = .ok (.getfield 92, 3) := by decide +kernel
theorem dX12_nextToken_132 : decode cX12_nextToken 132 = .ok (.iaload, 1) := by decide +kernel
theorem dX12_nextToken_133 : decode cX12_nextToken 133 = .ok (.invokestatic 98, 3) := by decide +kernel
theorem dX12_nextToken_136 : decode cX12_nextToken 136 = .ok (.aload_n 0, 1) := by decide +kernel
theorem dX12_nextToken_137 : decode cX12_nextToken 137 = .ok (.getfield 102, 3) := by decide +kernel
theorem dX12_nextToken_140 : decode cX12_nextToken 140 = .ok (.if_icmp .ne 16, 3) := by decide +kernel
theorem dX12_nextToken_143 : decode cX12_nextToken 143 = .ok (.aload_n 0, 1) := by decide +kernel
theorem dX12_nextToken_144 : decode cX12_nextToken 144 = .ok (.dup, 1) := by decide +kernel
theorem dX12_nextToken_145 : decode cX12_nextToken 145 = .ok (.getfield 92, 3) := by decide +kernel
theorem dX12_nextToken_148 : decode cX12_nextToken 148 = .ok (.iconst 1, 1) := by decide +kernel
theorem dX12_nextToken_149 : decode cX12_nextToken 149 = .ok (.iadd, 1) := by decide +kernel
theorem dX12_nextToken_150 : decode cX12_nextToken 150 = .ok (.putfield 92, 3) := by decide +kernel
theorem dX12_nextToken_153 : decode cX12_nextToken 153 = .ok (.goto (-55), 3) := by decide +kernel
theorem dX12_nextToken_156 : decode cX12_nextToken 156 = .ok (.aload_n 0, 1) := by decide +kernel
theorem dX12_nextToken_157 : decode cX12_nextToken 157 = .ok (.aload_n 0, 1) := by decide +kernel
theorem dX12_nextToken_158 : decode cX12_nextToken 158 = .ok (.getfield 92, 3) := by decide +kernel
theorem dX12_nextToken_161 : decode cX12_nextToken 161 = .ok (.aload_n 0, 1) := by decide +kernel
theorem dX12_nextToken_162 : decode cX12_nextToken 162 = .ok (.getfield 95, 3) := by decide +kernel
theorem dX12_nextToken_165 : decode cX12_nextToken 165 = .ok (.isub, 1) := by decide +kernel
theorem dX12_nextToken_166 : decode cX12_nextToken 166 = .ok (.putfield 105, 3) := by decide +kernel
