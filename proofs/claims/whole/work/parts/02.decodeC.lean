theorem dX0_init_0 : decode cX0_init 0 = .ok (.aload_n 0, 1) := by decide +kernel
theorem dX0_init_1 : decode cX0_init 1 = .ok (.invokespecial 3, 3) := by decide +kernel
theorem dX0_init_4 : decode cX0_init 4 = .ok (.aload_n 0, 1) := by decide +kernel
theorem dX0_init_5 : decode cX0_init 5 = .ok (.bipush 12, 2) := by decide +kernel
theorem dX0_init_7 : decode cX0_init 7 = .ok (.newarray .int, 2) := by decide +kernel
theorem dX0_init_9 : decode cX0_init 9 = .ok (.putfield 9, 3) := by decide +kernel
theorem dX0_init_12 : decode cX0_init 12 = .ok (.aload_n 0, 1) := by decide +kernel
theorem dX0_init_13 : decode cX0_init 13 = .ok (.bipush 12, 2) := by decide +kernel
theorem dX0_init_15 : decode cX0_init 15 = .ok (.bipush 8, 2) := by decide +kernel
theorem dX0_init_17 : decode cX0_init 17 = .ok (.multianewarray 15 2, 4) := by decide +kernel
theorem dX0_init_21 : decode cX0_init 21 = .ok (.putfield 17, 3) := by decide +kernel
theorem dX0_init_24 : decode cX0_init 24 = .ok (.aload_n 0, 1) := by decide +kernel
theorem dX0_init_25 : decode cX0_init 25 = .ok (.bipush 40, 2) := by decide +kernel
theorem dX0_init_27 : decode cX0_init 27 = .ok (.newarray .int, 2) := by decide +kernel
theorem dX0_init_29 : decode cX0_init 29 = .ok (.putfield 20, 3) := by decide +kernel
theorem dX0_init_32 : decode cX0_init 32 = .ok (.aload_n 0, 1) := by decide +kernel
theorem dX0_init_33 : decode cX0_init 33 = .ok (.bipush 40, 2) := by decide +kernel
theorem dX0_init_35 : decode cX0_init 35 = .ok (.anewarray 23, 3) := by decide +kernel
theorem dX0_init_38 : decode cX0_init 38 = .ok (.putfield 25, 3) := by decide +kernel
theorem dX0_init_41 : decode cX0_init 41 = .ok (.aload_n 0, 1) := by decide +kernel
theorem dX0_init_42 : decode cX0_init 42 = .ok (.new 23, 3) := by decide +kernel
theorem dX0_init_45 : decode cX0_init 45 = .ok (.dup, 1) := by decide +kernel
theorem dX0_init_46 : decode cX0_init 46 = .ok (.invokespecial 29, 3) := by decide +kernel
theorem dX0_init_49 : decode cX0_init 49 = .ok (.putfield 30, 3) := by decide +kernel
theorem dX0_init_52 : decode cX0_init 52 = .ok (.aload_n 0, 1) := by decide +kernel
theorem dX0_init_53 : decode cX0_init 53 = .ok (.aload_n 1, 1) := by decide +kernel
theorem dX0_init_54 : decode cX0_init 54 = .ok (.putfield 34, 3) := by decide +kernel
theorem dX0_init_57 : decode cX0_init 57 = .ok (.aload_n 0, 1) := by decide +kernel
theorem dX0_init_58 : decode cX0_init 58 = .ok (.aload_n 2, 1) := by decide +kernel
theorem dX0_init_59 : decode cX0_init 59 = .ok (.putfield 38, 3) := by decide +kernel
theorem dX0_init_62 : decode cX0_init 62 = .ok (.iconst 0, 1) := by decide +kernel
theorem dX0_init_63 : decode cX0_init 63 = .ok (.istore_n 3, 1) := by decide +kernel
theorem dX0_init_64 : decode cX0_init 64 = .ok (.iload_n 3, 1) := by decide +kernel
theorem dX0_init_65 : decode cX0_init 65 = .ok (.bipush 40, 2) := by decide +kernel
theorem dX0_init_67 : decode cX0_init 67 = .ok (.if_icmp .ge 22, 3) := by decide +kernel
theorem dX0_init_70 : decode cX0_init 70 = .ok (.aload_n 0, 1) := by decide +kernel
theorem dX0_init_71 : decode cX0_init 71 = .ok (.getfield 25, 3) := by decide +kernel
theorem dX0_init_74 : decode cX0_init 74 = .ok (.iload_n 3, 1) := by decide +kernel
theorem dX0_init_75 : decode cX0_init 75 = .ok (.new 23, 3) := by decide +kernel
theorem dX0_init_78 : decode cX0_init 78 = .ok (.dup, 1) := by decide +kernel
theorem dX0_init_79 : decode cX0_init 79 = .ok (.invokespecial 29, 3) := by decide +kernel
theorem dX0_init_82 : decode cX0_init 82 = .ok (.aastore, 1) := by decide +kernel
theorem dX0_init_83 : decode cX0_init 83 = .ok (.iinc 3 1, 3) := by decide +kernel
theorem dX0_init_86 : decode cX0_init 86 = .ok (.goto (-22), 3) := by decide +kernel
theorem dX0_init_89 : decode cX0_init 89 = .ok (.return_, 1) := by decide +kernel
theorem dX0_clear_0 : decode cX0_clear 0 = .ok (.iconst 0, 1) := by decide +kernel
theorem dX0_clear_1 : decode cX0_clear 1 = .ok (.istore_n 1, 1) := by decide +kernel
theorem dX0_clear_2 : decode cX0_clear 2 = .ok (.iload_n 1, 1) := by decide +kernel
theorem dX0_clear_3 : decode cX0_clear 3 = .ok (.bipush 12, 2) := by decide +kernel
theorem dX0_clear_5 : decode cX0_clear 5 = .ok (.if_icmp .ge 16, 3) := by decide +kernel
theorem dX0_clear_8 : decode cX0_clear 8 = .ok (.aload_n 0, 1) := by decide +kernel
theorem dX0_clear_9 : decode cX0_clear 9 = .ok (.getfield 9, 3) := by decide +kernel
theorem dX0_clear_12 : decode cX0_clear 12 = .ok (.iload_n 1, 1) := by decide +kernel
theorem dX0_clear_13 : decode cX0_clear 13 = .ok (.iconst 0, 1) := by decide +kernel
theorem dX0_clear_14 : decode cX0_clear 14 = .ok (.iastore, 1) := by decide +kernel
theorem dX0_clear_15 : decode cX0_clear 15 = .ok (.iinc 1 1, 3) := by decide +kernel
theorem dX0_clear_18 : decode cX0_clear 18 = .ok (.goto (-16), 3) := by decide +kernel
theorem dX0_clear_21 : decode cX0_clear 21 = .ok (.iconst 0, 1) := by decide +kernel
theorem dX0_clear_22 : decode cX0_clear 22 = .ok (.istore_n 1, 1) := by decide +kernel
theorem dX0_clear_23 : decode cX0_clear 23 = .ok (.iload_n 1, 1) := by decide +kernel
theorem dX0_clear_24 : decode cX0_clear 24 = .ok (.bipush 40, 2) := by decide +kernel
theorem dX0_clear_26 : decode cX0_clear 26 = .ok (.if_icmp .ge 16, 3) := by decide +kernel
theorem dX0_clear_29 : decode cX0_clear 29 = .ok (.aload_n 0, 1) := by decide +kernel
theorem dX0_clear_30 : decode cX0_clear 30 = .ok (.getfield 20, 3) := by decide +kernel
theorem dX0_clear_33 : decode cX0_clear 33 = .ok (.iload_n 1, 1) := by decide +kernel
theorem dX0_clear_34 : decode cX0_clear 34 = .ok (.iconst 0, 1) := by decide +kernel
theorem dX0_clear_35 : decode cX0_clear 35 = .ok (.iastore, 1) := by decide +kernel
theorem dX0_clear_36 : decode cX0_clear 36 = .ok (.iinc 1 1, 3) := by decide +kernel
theorem dX0_clear_39 : decode cX0_clear 39 = .ok (.goto (-16), 3) := by decide +kernel
theorem dX0_clear_42 : decode cX0_clear 42 = .ok (.return_, 1) := by decide +kernel
theorem dX0_countEnded_0 : decode cX0_countEnded 0 = .ok (.iconst 0, 1) := by decide +kernel
theorem dX0_countEnded_1 : decode cX0_countEnded 1 = .ok (.istore_n 1, 1) := by decide +kernel
theorem dX0_countEnded_2 : decode cX0_countEnded 2 = .ok (.iconst 0, 1) := by decide +kernel
theorem dX0_countEnded_3 : decode cX0_countEnded 3 = .ok (.istore_n 2, 1) := by decide +kernel
theorem dX0_countEnded_4 : decode cX0_countEnded 4 = .ok (.iload_n 2, 1) := by decide +kernel
theorem dX0_countEnded_5 : decode cX0_countEnded 5 = .ok (.bipush 12, 2) := by decide +kernel
theorem dX0_countEnded_7 : decode cX0_countEnded 7 = .ok (.if_icmp .ge 32, 3) := by decide +kernel
theorem dX0_countEnded_10 : decode cX0_countEnded 10 = .ok (.aload_n 0, 1) := by decide +kernel
theorem dX0_countEnded_11 : decode cX0_countEnded 11 = .ok (.getfield 9, 3) := by decide +kernel
theorem dX0_countEnded_14 : decode cX0_countEnded 14 = .ok (.iload_n 2, 1) := by decide +kernel
theorem dX0_countEnded_15 : decode cX0_countEnded 15 = .ok (.iaload, 1) := by decide +kernel
theorem dX0_countEnded_16 : decode cX0_countEnded 16 = .ok (.iconst 1, 1) := by decide +kernel
theorem dX0_countEnded_17 : decode cX0_countEnded 17 = .ok (.if_icmp .eq 13, 3) := by decide +kernel
theorem dX0_countEnded_20 : decode cX0_countEnded 20 = .ok (.aload_n 0, 1) := by decide +kernel
theorem dX0_countEnded_21 : decode cX0_countEnded 21 = .ok (.getfield 9, 3) := by decide +kernel
theorem dX0_countEnded_24 : decode cX0_countEnded 24 = .ok (.iload_n 2, 1) := by decide +kernel
theorem dX0_countEnded_25 : decode cX0_countEnded 25 = .ok (.iaload, 1) := by decide +kernel
theorem dX0_countEnded_26 : decode cX0_countEnded 26 = .ok (.iconst 3, 1) := by decide +kernel
theorem dX0_countEnded_27 : decode cX0_countEnded 27 = .ok (.if_icmp .ne 6, 3) := by decide +kernel
theorem dX0_countEnded_30 : decode cX0_countEnded 30 = .ok (.iinc 1 1, 3) := by decide +kernel
theorem dX0_countEnded_33 : decode cX0_countEnded 33 = .ok (.iinc 2 1, 3) := by decide +kernel
theorem dX0_countEnded_36 : decode cX0_countEnded 36 = .ok (.goto (-32), 3) := by decide +kernel
theorem dX0_countEnded_39 : decode cX0_countEnded 39 = .ok (.iload_n 1, 1) := by decide +kernel
theorem dX0_countEnded_40 : decode cX0_countEnded 40 = .ok (.ireturn, 1) := by decide +kernel
theorem dX0_tellKept_0 : decode cX0_tellKept 0 = .ok (.aload_n 0, 1) := by decide +kernel
theorem dX0_tellKept_1 : decode cX0_tellKept 1 = .ok (.getfield 20, 3) := by decide +kernel
theorem dX0_tellKept_4 : decode cX0_tellKept 4 = .ok (.iload_n 1, 1) := by decide +kernel
theorem dX0_tellKept_5 : decode cX0_tellKept 5 = .ok (.iaload, 1) := by decide +kernel
theorem dX0_tellKept_6 : decode cX0_tellKept 6 = .ok (.iconst 2, 1) := by decide +kernel
theorem dX0_tellKept_7 : decode cX0_tellKept 7 = .ok (.if_icmp .eq 5, 3) := by decide +kernel
theorem dX0_tellKept_10 : decode cX0_tellKept 10 = .ok (.iconst 0, 1) := by decide +kernel
theorem dX0_tellKept_11 : decode cX0_tellKept 11 = .ok (.ireturn, 1) := by decide +kernel
theorem dX0_tellKept_12 : decode cX0_tellKept 12 = .ok (.aload_n 0, 1) := by decide +kernel
theorem dX0_tellKept_13 : decode cX0_tellKept 13 = .ok (.getfield 25, 3) := by decide +kernel
theorem dX0_tellKept_16 : decode cX0_tellKept 16 = .ok (.iload_n 1, 1) := by decide +kernel
theorem dX0_tellKept_17 : decode cX0_tellKept 17 = .ok (.aaload, 1) := by decide +kernel
theorem dX0_tellKept_18 : decode cX0_tellKept 18 = .ok (.getfield 42, 3) := by decide +kernel
theorem dX0_tellKept_21 : decode cX0_tellKept 21 = .ok (.istore_n 2, 1) := by decide +kernel
theorem dX0_tellKept_22 : decode cX0_tellKept 22 = .ok (.iload_n 2, 1) := by decide +kernel
theorem dX0_tellKept_23 : decode cX0_tellKept 23 = .ok (.ifCond .ne 7, 3) := by decide +kernel
theorem dX0_tellKept_26 : decode cX0_tellKept 26 = .ok (.iconst 1, 1) := by decide +kernel
theorem dX0_tellKept_27 : decode cX0_tellKept 27 = .ok (.goto 7, 3) := by decide +kernel
theorem dX0_tellKept_30 : decode cX0_tellKept 30 = .ok (.bipush 10, 2) := by decide +kernel
theorem dX0_tellKept_32 : decode cX0_tellKept 32 = .ok (.iload_n 2, 1) := by decide +kernel
theorem dX0_tellKept_33 : decode cX0_tellKept 33 = .ok (.iadd, 1) := by decide +kernel
theorem dX0_tellKept_34 : decode cX0_tellKept 34 = .ok (.ireturn, 1) := by decide +kernel
theorem dX0_tellItem_0 : decode cX0_tellItem 0 = .ok (.aload_n 0, 1) := by decide +kernel
theorem dX0_tellItem_1 : decode cX0_tellItem 1 = .ok (.getfield 9, 3) := by decide +kernel
theorem dX0_tellItem_4 : decode cX0_tellItem 4 = .ok (.iload_n 1, 1) := by decide +kernel
theorem dX0_tellItem_5 : decode cX0_tellItem 5 = .ok (.iaload, 1) := by decide +kernel
theorem dX0_tellItem_6 : decode cX0_tellItem 6 = .ok (.ifCond .ne 17, 3) := by decide +kernel
theorem dX0_tellItem_9 : decode cX0_tellItem 9 = .ok (.aload_n 0, 1) := by decide +kernel
theorem dX0_tellItem_10 : decode cX0_tellItem 10 = .ok (.getfield 34, 3) := by decide +kernel
theorem dX0_tellItem_13 : decode cX0_tellItem 13 = .ok (.getfield 46, 3) := by decide +kernel
theorem dX0_tellItem_16 : decode cX0_tellItem 16 = .ok (.iload_n 1, 1) := by decide +kernel
theorem dX0_tellItem_17 : decode cX0_tellItem 17 = .ok (.aaload, 1) := by decide +kernel
theorem dX0_tellItem_18 : decode cX0_tellItem 18 = .ok (.iload_n 2, 1) := by decide +kernel
theorem dX0_tellItem_19 : decode cX0_tellItem 19 = .ok (.iaload, 1) := by decide +kernel
theorem dX0_tellItem_20 : decode cX0_tellItem 20 = .ok (.goto 11, 3) := by decide +kernel
theorem dX0_tellItem_23 : decode cX0_tellItem 23 = .ok (.aload_n 0, 1) := by decide +kernel
theorem dX0_tellItem_24 : decode cX0_tellItem 24 = .ok (.getfield 17, 3) := by decide +kernel
theorem dX0_tellItem_27 : decode cX0_tellItem 27 = .ok (.iload_n 1, 1) := by decide +kernel
theorem dX0_tellItem_28 : decode cX0_tellItem 28 = .ok (.aaload, 1) := by decide +kernel
theorem dX0_tellItem_29 : decode cX0_tellItem 29 = .ok (.iload_n 2, 1) := by decide +kernel
theorem dX0_tellItem_30 : decode cX0_tellItem 30 = .ok (.iaload, 1) := by decide +kernel
theorem dX0_tellItem_31 : decode cX0_tellItem 31 = .ok (.ireturn, 1) := by decide +kernel
theorem dX0_obtain_0 : decode cX0_obtain 0 = .ok (.aload_n 0, 1) := by decide +kernel
theorem dX0_obtain_1 : decode cX0_obtain 1 = .ok (.getfield 34, 3) := by decide +kernel
theorem dX0_obtain_4 : decode cX0_obtain 4 = .ok (.iload_n 1, 1) := by decide +kernel
theorem dX0_obtain_5 : decode cX0_obtain 5 = .ok (.invokevirtual 51, 3) := by decide +kernel
theorem dX0_obtain_8 : decode cX0_obtain 8 = .ok (.ifCond .ne 14, 3) := by decide +kernel
theorem dX0_obtain_11 : decode cX0_obtain 11 = .ok (.aload_n 0, 1) := by decide +kernel
theorem dX0_obtain_12 : decode cX0_obtain 12 = .ok (.getfield 30, 3) := by decide +kernel
theorem dX0_obtain_15 : decode cX0_obtain 15 = .ok (.bipush 8, 2) := by decide +kernel
theorem dX0_obtain_17 : decode cX0_obtain 17 = .ok (.iload_n 1, 1) := by decide +kernel
theorem dX0_obtain_18 : decode cX0_obtain 18 = .ok (.invokevirtual 55, 3) := by decide +kernel
theorem dX0_obtain_21 : decode cX0_obtain 21 = .ok (.ireturn, 1) := by decide +kernel
theorem dX0_obtain_22 : decode cX0_obtain 22 = .ok (.aload_n 0, 1) := by decide +kernel
theorem dX0_obtain_23 : decode cX0_obtain 23 = .ok (.aload_n 0, 1) := by decide +kernel
theorem dX0_obtain_24 : decode cX0_obtain 24 = .ok (.getfield 34, 3) := by decide +kernel
theorem dX0_obtain_27 : decode cX0_obtain 27 = .ok (.getfield 59, 3) := by decide +kernel
theorem dX0_obtain_30 : decode cX0_obtain 30 = .ok (.iload_n 1, 1) := by decide +kernel
theorem dX0_obtain_31 : decode cX0_obtain 31 = .ok (.iaload, 1) := by decide +kernel
theorem dX0_obtain_32 : decode cX0_obtain 32 = .ok (.iload_n 2, 1) := by decide +kernel
theorem dX0_obtain_33 : decode cX0_obtain 33 = .ok (.iconst 1, 1) := by decide +kernel
theorem dX0_obtain_34 : decode cX0_obtain 34 = .ok (.iadd, 1) := by decide +kernel
theorem dX0_obtain_35 : decode cX0_obtain 35 = .ok (.invokevirtual 62, 3) := by decide +kernel
theorem dX0_obtain_38 : decode cX0_obtain 38 = .ok (.ifCond .ne 5, 3) := by decide +kernel
theorem dX0_obtain_41 : decode cX0_obtain 41 = .ok (.iconst 0, 1) := by decide +kernel
theorem dX0_obtain_42 : decode cX0_obtain 42 = .ok (.ireturn, 1) := by decide +kernel
theorem dX0_obtain_43 : decode cX0_obtain 43 = .ok (.aload_n 0, 1) := by decide +kernel
theorem dX0_obtain_44 : decode cX0_obtain 44 = .ok (.getfield 20, 3) := by decide +kernel
theorem dX0_obtain_47 : decode cX0_obtain 47 = .ok (.iload_n 1, 1) := by decide +kernel
theorem dX0_obtain_48 : decode cX0_obtain 48 = .ok (.iaload, 1) := by decide +kernel
theorem dX0_obtain_49 : decode cX0_obtain 49 = .ok (.iconst 2, 1) := by decide +kernel
theorem dX0_obtain_50 : decode cX0_obtain 50 = .ok (.if_icmp .ne 32, 3) := by decide +kernel
theorem dX0_obtain_53 : decode cX0_obtain 53 = .ok (.aload_n 0, 1) := by decide +kernel
theorem dX0_obtain_54 : decode cX0_obtain 54 = .ok (.getfield 30, 3) := by decide +kernel
theorem dX0_obtain_57 : decode cX0_obtain 57 = .ok (.aload_n 0, 1) := by decide +kernel
theorem dX0_obtain_58 : decode cX0_obtain 58 = .ok (.getfield 25, 3) := by decide +kernel
theorem dX0_obtain_61 : decode cX0_obtain 61 = .ok (.iload_n 1, 1) := by decide +kernel
theorem dX0_obtain_62 : decode cX0_obtain 62 = .ok (.aaload, 1) := by decide +kernel
theorem dX0_obtain_63 : decode cX0_obtain 63 = .ok (.invokevirtual 65, 3) := by decide +kernel
theorem dX0_obtain_66 : decode cX0_obtain 66 = .ok (.aload_n 0, 1) := by decide +kernel
theorem dX0_obtain_67 : decode cX0_obtain 67 = .ok (.getfield 30, 3) := by decide +kernel
theorem dX0_obtain_70 : decode cX0_obtain 70 = .ok (.getfield 42, 3) := by decide +kernel
theorem dX0_obtain_73 : decode cX0_obtain 73 = .ok (.ifCond .ne 7, 3) := by decide +kernel
theorem dX0_obtain_76 : decode cX0_obtain 76 = .ok (.iconst 1, 1) := by decide +kernel
theorem dX0_obtain_77 : decode cX0_obtain 77 = .ok (.goto 4, 3) := by decide +kernel
theorem dX0_obtain_80 : decode cX0_obtain 80 = .ok (.iconst 0, 1) := by decide +kernel
theorem dX0_obtain_81 : decode cX0_obtain 81 = .ok (.ireturn, 1) := by decide +kernel
theorem dX0_obtain_82 : decode cX0_obtain 82 = .ok (.aload_n 0, 1) := by decide +kernel
theorem dX0_obtain_83 : decode cX0_obtain 83 = .ok (.getfield 20, 3) := by decide +kernel
theorem dX0_obtain_86 : decode cX0_obtain 86 = .ok (.iload_n 1, 1) := by decide +kernel
theorem dX0_obtain_87 : decode cX0_obtain 87 = .ok (.iaload, 1) := by decide +kernel
theorem dX0_obtain_88 : decode cX0_obtain 88 = .ok (.iconst 1, 1) := by decide +kernel
theorem dX0_obtain_89 : decode cX0_obtain 89 = .ok (.if_icmp .eq 9, 3) := by decide +kernel
theorem dX0_obtain_92 : decode cX0_obtain 92 = .ok (.iload_n 2, 1) := by decide +kernel
theorem dX0_obtain_93 : decode cX0_obtain 93 = .ok (.bipush 66, 2) := by decide +kernel
theorem dX0_obtain_95 : decode cX0_obtain 95 = .ok (.if_icmp .le 13, 3) := by decide +kernel
theorem dX0_obtain_98 : decode cX0_obtain 98 = .ok (.aload_n 0, 1) := by decide +kernel
theorem dX0_obtain_99 : decode cX0_obtain 99 = .ok (.getfield 30, 3) := by decide +kernel
theorem dX0_obtain_102 : decode cX0_obtain 102 = .ok (.iconst 4, 1) := by decide +kernel
theorem dX0_obtain_103 : decode cX0_obtain 103 = .ok (.iload_n 1, 1) := by decide +kernel
theorem dX0_obtain_104 : decode cX0_obtain 104 = .ok (.invokevirtual 55, 3) := by decide +kernel
theorem dX0_obtain_107 : decode cX0_obtain 107 = .ok (.ireturn, 1) := by decide +kernel
theorem dX0_obtain_108 : decode cX0_obtain 108 = .ok (.aload_n 0, 1) := by decide +kernel
theorem dX0_obtain_109 : decode cX0_obtain 109 = .ok (.iload_n 1, 1) := by decide +kernel
theorem dX0_obtain_110 : decode cX0_obtain 110 = .ok (.iload_n 2, 1) := by decide +kernel
theorem dX0_obtain_111 : decode cX0_obtain 111 = .ok (.invokevirtual 69, 3) := by decide +kernel
theorem dX0_obtain_114 : decode cX0_obtain 114 = .ok (.ireturn, 1) := by decide +kernel
theorem dX0_work_0 : decode cX0_work 0 = .ok (.aload_n 0, 1) := by decide +kernel
theorem dX0_work_1 : decode cX0_work 1 = .ok (.getfield 20, 3) := by decide +kernel
theorem dX0_work_4 : decode cX0_work 4 = .ok (.iload_n 1, 1) := by decide +kernel
theorem dX0_work_5 : decode cX0_work 5 = .ok (.iconst 1, 1) := by decide +kernel
theorem dX0_work_6 : decode cX0_work 6 = .ok (.iastore, 1) := by decide +kernel
theorem dX0_work_7 : decode cX0_work 7 = .ok (.aload_n 0, 1) := by decide +kernel
theorem dX0_work_8 : decode cX0_work 8 = .ok (.dup, 1) := by decide +kernel
theorem dX0_work_9 : decode cX0_work 9 = .ok (.getfield 72, 3) := by decide +kernel
theorem dX0_work_12 : decode cX0_work 12 = .ok (.iconst 1, 1) := by decide +kernel
theorem dX0_work_13 : decode cX0_work 13 = .ok (.iadd, 1) := by decide +kernel
theorem dX0_work_14 : decode cX0_work 14 = .ok (.putfield 72, 3) := by decide +kernel
theorem dX0_work_17 : decode cX0_work 17 = .ok (.aload_n 0, 1) := by decide +kernel
theorem dX0_work_18 : decode cX0_work 18 = .ok (.getfield 38, 3) := by decide +kernel
theorem dX0_work_21 : decode cX0_work 21 = .ok (.iconst 3, 1) := by decide +kernel
theorem dX0_work_22 : decode cX0_work 22 = .ok (.iload_n 1, 1) := by decide +kernel
theorem dX0_work_23 : decode cX0_work 23 = .ok (.invokevirtual 75, 3) := by decide +kernel
theorem dX0_work_26 : decode cX0_work 26 = .ok (.aload_n 0, 1) := by decide +kernel
theorem dX0_work_27 : decode cX0_work 27 = .ok (.iload_n 1, 1) := by decide +kernel
theorem dX0_work_28 : decode cX0_work 28 = .ok (.iload_n 2, 1) := by decide +kernel
theorem dX0_work_29 : decode cX0_work 29 = .ok (.iconst 1, 1) := by decide +kernel
theorem dX0_work_30 : decode cX0_work 30 = .ok (.iadd, 1) := by decide +kernel
theorem dX0_work_31 : decode cX0_work 31 = .ok (.invokevirtual 81, 3) := by decide +kernel
theorem dX0_work_34 : decode cX0_work 34 = .ok (.istore_n 3, 1) := by decide +kernel
theorem dX0_work_35 : decode cX0_work 35 = .ok (.aload_n 0, 1) := by decide +kernel
theorem dX0_work_36 : decode cX0_work 36 = .ok (.getfield 25, 3) := by decide +kernel
theorem dX0_work_39 : decode cX0_work 39 = .ok (.iload_n 1, 1) := by decide +kernel
theorem dX0_work_40 : decode cX0_work 40 = .ok (.aaload, 1) := by decide +kernel
theorem dX0_work_41 : decode cX0_work 41 = .ok (.aload_n 0, 1) := by decide +kernel
theorem dX0_work_42 : decode cX0_work 42 = .ok (.getfield 30, 3) := by decide +kernel
theorem dX0_work_45 : decode cX0_work 45 = .ok (.invokevirtual 65, 3) := by decide +kernel
theorem dX0_work_48 : decode cX0_work 48 = .ok (.aload_n 0, 1) := by decide +kernel
theorem dX0_work_49 : decode cX0_work 49 = .ok (.getfield 20, 3) := by decide +kernel
theorem dX0_work_52 : decode cX0_work 52 = .ok (.iload_n 1, 1) := by decide +kernel
theorem dX0_work_53 : decode cX0_work 53 = .ok (.iconst 2, 1) := by decide +kernel
theorem dX0_work_54 : decode cX0_work 54 = .ok (.iastore, 1) := by decide +kernel
theorem dX0_work_55 : decode cX0_work 55 = .ok (.aload_n 0, 1) := by decide +kernel
theorem dX0_work_56 : decode cX0_work 56 = .ok (.getfield 38, 3) := by decide +kernel
theorem dX0_work_59 : decode cX0_work 59 = .ok (.iload_n 3, 1) := by decide +kernel
theorem dX0_work_60 : decode cX0_work 60 = .ok (.ifCond .eq 7, 3) := by decide +kernel
theorem dX0_work_63 : decode cX0_work 63 = .ok (.iconst 4, 1) := by decide +kernel
theorem dX0_work_64 : decode cX0_work 64 = .ok (.goto 4, 3) := by decide +kernel
theorem dX0_work_67 : decode cX0_work 67 = .ok (.iconst 5, 1) := by decide +kernel
theorem dX0_work_68 : decode cX0_work 68 = .ok (.iload_n 1, 1) := by decide +kernel
theorem dX0_work_69 : decode cX0_work 69 = .ok (.invokevirtual 75, 3) := by decide +kernel
theorem dX0_work_72 : decode cX0_work 72 = .ok (.iload_n 3, 1) := by decide +kernel
theorem dX0_work_73 : decode cX0_work 73 = .ok (.ireturn, 1) := by decide +kernel
theorem dX0_reckon_0 : decode cX0_reckon 0 = .ok (.aload_n 0, 1) := by decide +kernel
theorem dX0_reckon_1 : decode cX0_reckon 1 = .ok (.getfield 34, 3) := by decide +kernel
theorem dX0_reckon_4 : decode cX0_reckon 4 = .ok (.getfield 84, 3) := by decide +kernel
theorem dX0_reckon_7 : decode cX0_reckon 7 = .ok (.iload_n 1, 1) := by decide +kernel
theorem dX0_reckon_8 : decode cX0_reckon 8 = .ok (.iaload, 1) := by decide +kernel
theorem dX0_reckon_9 : decode cX0_reckon 9 = .ok (.istore_n 3, 1) := by decide +kernel
theorem dX0_reckon_10 : decode cX0_reckon 10 = .ok (.aload_n 0, 1) := by decide +kernel
theorem dX0_reckon_11 : decode cX0_reckon 11 = .ok (.getfield 34, 3) := by decide +kernel
theorem dX0_reckon_14 : decode cX0_reckon 14 = .ok (.getfield 87, 3) := by decide +kernel
theorem dX0_reckon_17 : decode cX0_reckon 17 = .ok (.iload_n 1, 1) := by decide +kernel
theorem dX0_reckon_18 : decode cX0_reckon 18 = .ok (.iaload, 1) := by decide +kernel
theorem dX0_reckon_19 : decode cX0_reckon 19 = .ok (.istore 4, 2) := by decide +kernel
theorem dX0_reckon_21 : decode cX0_reckon 21 = .ok (.aload_n 0, 1) := by decide +kernel
theorem dX0_reckon_22 : decode cX0_reckon 22 = .ok (.getfield 34, 3) := by decide +kernel
theorem dX0_reckon_25 : decode cX0_reckon 25 = .ok (.getfield 90, 3) := by decide +kernel
theorem dX0_reckon_28 : decode cX0_reckon 28 = .ok (.iload_n 1, 1) := by decide +kernel
theorem dX0_reckon_29 : decode cX0_reckon 29 = .ok (.iaload, 1) := by decide +kernel
theorem dX0_reckon_30 : decode cX0_reckon 30 = .ok (.tableswitch 332 0 11 #[62, 71, 106, 115, 124, 162, 332, 189, 236, 250, 266, 292], 62) := by decide +kernel
theorem dX0_reckon_92 : decode cX0_reckon 92 = .ok (.aload_n 0, 1) := by decide +kernel
theorem dX0_reckon_93 : decode cX0_reckon 93 = .ok (.getfield 30, 3) := by decide +kernel
theorem dX0_reckon_96 : decode cX0_reckon 96 = .ok (.iload_n 3, 1) := by decide +kernel
theorem dX0_reckon_97 : decode cX0_reckon 97 = .ok (.invokevirtual 93, 3) := by decide +kernel
theorem dX0_reckon_100 : decode cX0_reckon 100 = .ok (.ireturn, 1) := by decide +kernel
theorem dX0_reckon_101 : decode cX0_reckon 101 = .ok (.aload_n 0, 1) := by decide +kernel
theorem dX0_reckon_102 : decode cX0_reckon 102 = .ok (.iload_n 3, 1) := by decide +kernel
theorem dX0_reckon_103 : decode cX0_reckon 103 = .ok (.iload_n 2, 1) := by decide +kernel
theorem dX0_reckon_104 : decode cX0_reckon 104 = .ok (.invokevirtual 96, 3) := by decide +kernel
theorem dX0_reckon_107 : decode cX0_reckon 107 = .ok (.ifCond .eq 27, 3) := by decide +kernel
theorem dX0_reckon_110 : decode cX0_reckon 110 = .ok (.aload_n 0, 1) := by decide +kernel
theorem dX0_reckon_111 : decode cX0_reckon 111 = .ok (.getfield 30, 3) := by decide +kernel
theorem dX0_reckon_114 : decode cX0_reckon 114 = .ok (.aload_n 0, 1) := by decide +kernel
theorem dX0_reckon_115 : decode cX0_reckon 115 = .ok (.getfield 30, 3) := by decide +kernel
theorem dX0_reckon_118 : decode cX0_reckon 118 = .ok (.getfield 99, 3) := by decide +kernel
theorem dX0_reckon_121 : decode cX0_reckon 121 = .ok (.iload 4, 2) := by decide +kernel
theorem dX0_reckon_123 : decode cX0_reckon 123 = .ok (.iadd, 1) := by decide +kernel
theorem dX0_reckon_124 : decode cX0_reckon 124 = .ok (.invokevirtual 93, 3) := by decide +kernel
theorem dX0_reckon_127 : decode cX0_reckon 127 = .ok (.ifCond .eq 7, 3) := by decide +kernel
theorem dX0_reckon_130 : decode cX0_reckon 130 = .ok (.iconst 1, 1) := by decide +kernel
theorem dX0_reckon_131 : decode cX0_reckon 131 = .ok (.goto 4, 3) := by decide +kernel
theorem dX0_reckon_134 : decode cX0_reckon 134 = .ok (.iconst 0, 1) := by decide +kernel
theorem dX0_reckon_135 : decode cX0_reckon 135 = .ok (.ireturn, 1) := by decide +kernel
theorem dX0_reckon_136 : decode cX0_reckon 136 = .ok (.aload_n 0, 1) := by decide +kernel
theorem dX0_reckon_137 : decode cX0_reckon 137 = .ok (.iload_n 3, 1) := by decide +kernel
theorem dX0_reckon_138 : decode cX0_reckon 138 = .ok (.iload 4, 2) := by decide +kernel
theorem dX0_reckon_140 : decode cX0_reckon 140 = .ok (.iload_n 2, 1) := by decide +kernel
theorem dX0_reckon_141 : decode cX0_reckon 141 = .ok (.invokevirtual 102, 3) := by decide +kernel
theorem dX0_reckon_144 : decode cX0_reckon 144 = .ok (.ireturn, 1) := by decide +kernel
theorem dX0_reckon_145 : decode cX0_reckon 145 = .ok (.aload_n 0, 1) := by decide +kernel
theorem dX0_reckon_146 : decode cX0_reckon 146 = .ok (.iload_n 3, 1) := by decide +kernel
theorem dX0_reckon_147 : decode cX0_reckon 147 = .ok (.iload 4, 2) := by decide +kernel
theorem dX0_reckon_149 : decode cX0_reckon 149 = .ok (.iload_n 2, 1) := by decide +kernel
theorem dX0_reckon_150 : decode cX0_reckon 150 = .ok (.invokevirtual 106, 3) := by decide +kernel
theorem dX0_reckon_153 : decode cX0_reckon 153 = .ok (.ireturn, 1) := by decide +kernel
theorem dX0_reckon_154 : decode cX0_reckon 154 = .ok (.aload_n 0, 1) := by decide +kernel
theorem dX0_reckon_155 : decode cX0_reckon 155 = .ok (.iload_n 3, 1) := by decide +kernel
theorem dX0_reckon_156 : decode cX0_reckon 156 = .ok (.iload_n 2, 1) := by decide +kernel
theorem dX0_reckon_157 : decode cX0_reckon 157 = .ok (.invokevirtual 96, 3) := by decide +kernel
theorem dX0_reckon_160 : decode cX0_reckon 160 = .ok (.ifCond .eq 30, 3) := by decide +kernel
theorem dX0_reckon_163 : decode cX0_reckon 163 = .ok (.aload_n 0, 1) := by decide +kernel
theorem dX0_reckon_164 : decode cX0_reckon 164 = .ok (.aload_n 0, 1) := by decide +kernel
theorem dX0_reckon_165 : decode cX0_reckon 165 = .ok (.getfield 34, 3) := by decide +kernel
theorem dX0_reckon_168 : decode cX0_reckon 168 = .ok (.getfield 59, 3) := by decide +kernel
theorem dX0_reckon_171 : decode cX0_reckon 171 = .ok (.iload_n 1, 1) := by decide +kernel
theorem dX0_reckon_172 : decode cX0_reckon 172 = .ok (.iaload, 1) := by decide +kernel
theorem dX0_reckon_173 : decode cX0_reckon 173 = .ok (.aload_n 0, 1) := by decide +kernel
theorem dX0_reckon_174 : decode cX0_reckon 174 = .ok (.getfield 30, 3) := by decide +kernel
theorem dX0_reckon_177 : decode cX0_reckon 177 = .ok (.getfield 99, 3) := by decide +kernel
theorem dX0_reckon_180 : decode cX0_reckon 180 = .ok (.invokevirtual 109, 3) := by decide +kernel
theorem dX0_reckon_183 : decode cX0_reckon 183 = .ok (.ifCond .eq 7, 3) := by decide +kernel
theorem dX0_reckon_186 : decode cX0_reckon 186 = .ok (.iconst 1, 1) := by decide +kernel
theorem dX0_reckon_187 : decode cX0_reckon 187 = .ok (.goto 4, 3) := by decide +kernel
theorem dX0_reckon_190 : decode cX0_reckon 190 = .ok (.iconst 0, 1) := by decide +kernel
theorem dX0_reckon_191 : decode cX0_reckon 191 = .ok (.ireturn, 1) := by decide +kernel
theorem dX0_reckon_192 : decode cX0_reckon 192 = .ok (.aload_n 0, 1) := by decide +kernel
theorem dX0_reckon_193 : decode cX0_reckon 193 = .ok (.iload_n 3, 1) := by decide +kernel
theorem dX0_reckon_194 : decode cX0_reckon 194 = .ok (.iload_n 2, 1) := by decide +kernel
theorem dX0_reckon_195 : decode cX0_reckon 195 = .ok (.invokevirtual 96, 3) := by decide +kernel
theorem dX0_reckon_198 : decode cX0_reckon 198 = .ok (.ifCond .ne 15, 3) := by decide +kernel
theorem dX0_reckon_201 : decode cX0_reckon 201 = .ok (.aload_n 0, 1) := by decide +kernel
theorem dX0_reckon_202 : decode cX0_reckon 202 = .ok (.getfield 30, 3) := by decide +kernel
theorem dX0_reckon_205 : decode cX0_reckon 205 = .ok (.iload 4, 2) := by decide +kernel
theorem dX0_reckon_207 : decode cX0_reckon 207 = .ok (.invokevirtual 93, 3) := by decide +kernel
theorem dX0_reckon_210 : decode cX0_reckon 210 = .ok (.ifCond .eq 7, 3) := by decide +kernel
theorem dX0_reckon_213 : decode cX0_reckon 213 = .ok (.iconst 1, 1) := by decide +kernel
theorem dX0_reckon_214 : decode cX0_reckon 214 = .ok (.goto 4, 3) := by decide +kernel
theorem dX0_reckon_217 : decode cX0_reckon 217 = .ok (.iconst 0, 1) := by decide +kernel
theorem dX0_reckon_218 : decode cX0_reckon 218 = .ok (.ireturn, 1) := by decide +kernel
theorem dX0_reckon_219 : decode cX0_reckon 219 = .ok (.aload_n 0, 1) := by decide +kernel
theorem dX0_reckon_220 : decode cX0_reckon 220 = .ok (.iload_n 3, 1) := by decide +kernel
theorem dX0_reckon_221 : decode cX0_reckon 221 = .ok (.iload_n 2, 1) := by decide +kernel
theorem dX0_reckon_222 : decode cX0_reckon 222 = .ok (.invokevirtual 96, 3) := by decide +kernel
theorem dX0_reckon_225 : decode cX0_reckon 225 = .ok (.ifCond .eq 39, 3) := by decide +kernel
theorem dX0_reckon_228 : decode cX0_reckon 228 = .ok (.aload_n 0, 1) := by decide +kernel
theorem dX0_reckon_229 : decode cX0_reckon 229 = .ok (.aload_n 0, 1) := by decide +kernel
theorem dX0_reckon_230 : decode cX0_reckon 230 = .ok (.getfield 30, 3) := by decide +kernel
theorem dX0_reckon_233 : decode cX0_reckon 233 = .ok (.getfield 99, 3) := by decide +kernel
theorem dX0_reckon_236 : decode cX0_reckon 236 = .ok (.ifCond .eq 8, 3) := by decide +kernel
theorem dX0_reckon_239 : decode cX0_reckon 239 = .ok (.iload 4, 2) := by decide +kernel
theorem dX0_reckon_241 : decode cX0_reckon 241 = .ok (.goto 12, 3) := by decide +kernel
theorem dX0_reckon_244 : decode cX0_reckon 244 = .ok (.aload_n 0, 1) := by decide +kernel
theorem dX0_reckon_245 : decode cX0_reckon 245 = .ok (.getfield 34, 3) := by decide +kernel
theorem dX0_reckon_248 : decode cX0_reckon 248 = .ok (.getfield 112, 3) := by decide +kernel
theorem dX0_reckon_251 : decode cX0_reckon 251 = .ok (.iload_n 1, 1) := by decide +kernel
theorem dX0_reckon_252 : decode cX0_reckon 252 = .ok (.iaload, 1) := by decide +kernel
theorem dX0_reckon_253 : decode cX0_reckon 253 = .ok (.iload_n 2, 1) := by decide +kernel
theorem dX0_reckon_254 : decode cX0_reckon 254 = .ok (.invokevirtual 96, 3) := by decide +kernel
theorem dX0_reckon_257 : decode cX0_reckon 257 = .ok (.ifCond .eq 7, 3) := by decide +kernel
theorem dX0_reckon_260 : decode cX0_reckon 260 = .ok (.iconst 1, 1) := by decide +kernel
theorem dX0_reckon_261 : decode cX0_reckon 261 = .ok (.goto 4, 3) := by decide +kernel
theorem dX0_reckon_264 : decode cX0_reckon 264 = .ok (.iconst 0, 1) := by decide +kernel
theorem dX0_reckon_265 : decode cX0_reckon 265 = .ok (.ireturn, 1) := by decide +kernel
theorem dX0_reckon_266 : decode cX0_reckon 266 = .ok (.aload_n 0, 1) := by decide +kernel
theorem dX0_reckon_267 : decode cX0_reckon 267 = .ok (.getfield 30, 3) := by decide +kernel
theorem dX0_reckon_270 : decode cX0_reckon 270 = .ok (.aload_n 0, 1) := by decide +kernel
theorem dX0_reckon_271 : decode cX0_reckon 271 = .ok (.getfield 9, 3) := by decide +kernel
theorem dX0_reckon_274 : decode cX0_reckon 274 = .ok (.iload_n 3, 1) := by decide +kernel
theorem dX0_reckon_275 : decode cX0_reckon 275 = .ok (.iaload, 1) := by decide +kernel
theorem dX0_reckon_276 : decode cX0_reckon 276 = .ok (.invokevirtual 93, 3) := by decide +kernel
theorem dX0_reckon_279 : decode cX0_reckon 279 = .ok (.ireturn, 1) := by decide +kernel
theorem dX0_reckon_280 : decode cX0_reckon 280 = .ok (.aload_n 0, 1) := by decide +kernel
theorem dX0_reckon_281 : decode cX0_reckon 281 = .ok (.getfield 30, 3) := by decide +kernel
theorem dX0_reckon_284 : decode cX0_reckon 284 = .ok (.aload_n 0, 1) := by decide +kernel
theorem dX0_reckon_285 : decode cX0_reckon 285 = .ok (.getfield 34, 3) := by decide +kernel
theorem dX0_reckon_288 : decode cX0_reckon 288 = .ok (.iload_n 3, 1) := by decide +kernel
theorem dX0_reckon_289 : decode cX0_reckon 289 = .ok (.invokevirtual 115, 3) := by decide +kernel
theorem dX0_reckon_292 : decode cX0_reckon 292 = .ok (.invokevirtual 93, 3) := by decide +kernel
theorem dX0_reckon_295 : decode cX0_reckon 295 = .ok (.ireturn, 1) := by decide +kernel
theorem dX0_reckon_296 : decode cX0_reckon 296 = .ok (.aload_n 0, 1) := by decide +kernel
theorem dX0_reckon_297 : decode cX0_reckon 297 = .ok (.iload_n 3, 1) := by decide +kernel
theorem dX0_reckon_298 : decode cX0_reckon 298 = .ok (.iload_n 2, 1) := by decide +kernel
theorem dX0_reckon_299 : decode cX0_reckon 299 = .ok (.invokevirtual 62, 3) := by decide +kernel
theorem dX0_reckon_302 : decode cX0_reckon 302 = .ok (.ifCond .eq 18, 3) := by decide +kernel
theorem dX0_reckon_305 : decode cX0_reckon 305 = .ok (.aload_n 0, 1) := by decide +kernel
theorem dX0_reckon_306 : decode cX0_reckon 306 = .ok (.getfield 30, 3) := by decide +kernel
theorem dX0_reckon_309 : decode cX0_reckon 309 = .ok (.iconst 1, 1) := by decide +kernel
theorem dX0_reckon_310 : decode cX0_reckon 310 = .ok (.invokevirtual 93, 3) := by decide +kernel
theorem dX0_reckon_313 : decode cX0_reckon 313 = .ok (.ifCond .eq 7, 3) := by decide +kernel
theorem dX0_reckon_316 : decode cX0_reckon 316 = .ok (.iconst 1, 1) := by decide +kernel
theorem dX0_reckon_317 : decode cX0_reckon 317 = .ok (.goto 4, 3) := by decide +kernel
theorem dX0_reckon_320 : decode cX0_reckon 320 = .ok (.iconst 0, 1) := by decide +kernel
theorem dX0_reckon_321 : decode cX0_reckon 321 = .ok (.ireturn, 1) := by decide +kernel
theorem dX0_reckon_322 : decode cX0_reckon 322 = .ok (.aload_n 0, 1) := by decide +kernel
theorem dX0_reckon_323 : decode cX0_reckon 323 = .ok (.iload_n 3, 1) := by decide +kernel
theorem dX0_reckon_324 : decode cX0_reckon 324 = .ok (.iload_n 2, 1) := by decide +kernel
theorem dX0_reckon_325 : decode cX0_reckon 325 = .ok (.invokevirtual 96, 3) := by decide +kernel
theorem dX0_reckon_328 : decode cX0_reckon 328 = .ok (.ifCond .eq 32, 3) := by decide +kernel
theorem dX0_reckon_331 : decode cX0_reckon 331 = .ok (.aload_n 0, 1) := by decide +kernel
theorem dX0_reckon_332 : decode cX0_reckon 332 = .ok (.aload_n 0, 1) := by decide +kernel
theorem dX0_reckon_333 : decode cX0_reckon 333 = .ok (.getfield 34, 3) := by decide +kernel
theorem dX0_reckon_336 : decode cX0_reckon 336 = .ok (.getfield 59, 3) := by decide +kernel
theorem dX0_reckon_339 : decode cX0_reckon 339 = .ok (.iload_n 1, 1) := by decide +kernel
theorem dX0_reckon_340 : decode cX0_reckon 340 = .ok (.iaload, 1) := by decide +kernel
theorem dX0_reckon_341 : decode cX0_reckon 341 = .ok (.iload 4, 2) := by decide +kernel
theorem dX0_reckon_343 : decode cX0_reckon 343 = .ok (.aload_n 0, 1) := by decide +kernel
theorem dX0_reckon_344 : decode cX0_reckon 344 = .ok (.getfield 30, 3) := by decide +kernel
theorem dX0_reckon_347 : decode cX0_reckon 347 = .ok (.getfield 99, 3) := by decide +kernel
theorem dX0_reckon_350 : decode cX0_reckon 350 = .ok (.invokevirtual 119, 3) := by decide +kernel
theorem dX0_reckon_353 : decode cX0_reckon 353 = .ok (.ifCond .eq 7, 3) := by decide +kernel
theorem dX0_reckon_356 : decode cX0_reckon 356 = .ok (.iconst 1, 1) := by decide +kernel
theorem dX0_reckon_357 : decode cX0_reckon 357 = .ok (.goto 4, 3) := by decide +kernel
theorem dX0_reckon_360 : decode cX0_reckon 360 = .ok (.iconst 0, 1) := by decide +kernel
theorem dX0_reckon_361 : decode cX0_reckon 361 = .ok (.ireturn, 1) := by decide +kernel
theorem dX0_reckon_362 : decode cX0_reckon 362 = .ok (.aload_n 0, 1) := by decide +kernel
theorem dX0_reckon_363 : decode cX0_reckon 363 = .ok (.getfield 30, 3) := by decide +kernel
theorem dX0_reckon_366 : decode cX0_reckon 366 = .ok (.iconst 3, 1) := by decide +kernel
theorem dX0_reckon_367 : decode cX0_reckon 367 = .ok (.iload_n 3, 1) := by decide +kernel
theorem dX0_reckon_368 : decode cX0_reckon 368 = .ok (.invokevirtual 55, 3) := by decide +kernel
theorem dX0_reckon_371 : decode cX0_reckon 371 = .ok (.ireturn, 1) := by decide +kernel
theorem dX0_multiply_0 : decode cX0_multiply 0 = .ok (.aload_n 0, 1) := by decide +kernel
theorem dX0_multiply_1 : decode cX0_multiply 1 = .ok (.iload_n 1, 1) := by decide +kernel
theorem dX0_multiply_2 : decode cX0_multiply 2 = .ok (.iload_n 3, 1) := by decide +kernel
theorem dX0_multiply_3 : decode cX0_multiply 3 = .ok (.invokevirtual 96, 3) := by decide +kernel
theorem dX0_multiply_6 : decode cX0_multiply 6 = .ok (.ifCond .ne 5, 3) := by decide +kernel
theorem dX0_multiply_9 : decode cX0_multiply 9 = .ok (.iconst 0, 1) := by decide +kernel
theorem dX0_multiply_10 : decode cX0_multiply 10 = .ok (.ireturn, 1) := by decide +kernel
theorem dX0_multiply_11 : decode cX0_multiply 11 = .ok (.aload_n 0, 1) := by decide +kernel
theorem dX0_multiply_12 : decode cX0_multiply 12 = .ok (.getfield 30, 3) := by decide +kernel
theorem dX0_multiply_15 : decode cX0_multiply 15 = .ok (.getfield 99, 3) := by decide +kernel
theorem dX0_multiply_18 : decode cX0_multiply 18 = .ok (.istore 4, 2) := by decide +kernel
theorem dX0_multiply_20 : decode cX0_multiply 20 = .ok (.aload_n 0, 1) := by decide +kernel
theorem dX0_multiply_21 : decode cX0_multiply 21 = .ok (.iload_n 2, 1) := by decide +kernel
theorem dX0_multiply_22 : decode cX0_multiply 22 = .ok (.iload_n 3, 1) := by decide +kernel
theorem dX0_multiply_23 : decode cX0_multiply 23 = .ok (.invokevirtual 96, 3) := by decide +kernel
theorem dX0_multiply_26 : decode cX0_multiply 26 = .ok (.ifCond .eq 27, 3) := by decide +kernel
theorem dX0_multiply_29 : decode cX0_multiply 29 = .ok (.aload_n 0, 1) := by decide +kernel
theorem dX0_multiply_30 : decode cX0_multiply 30 = .ok (.getfield 30, 3) := by decide +kernel
theorem dX0_multiply_33 : decode cX0_multiply 33 = .ok (.iload 4, 2) := by decide +kernel
theorem dX0_multiply_35 : decode cX0_multiply 35 = .ok (.aload_n 0, 1) := by decide +kernel
theorem dX0_multiply_36 : decode cX0_multiply 36 = .ok (.getfield 30, 3) := by decide +kernel
theorem dX0_multiply_39 : decode cX0_multiply 39 = .ok (.getfield 99, 3) := by decide +kernel
theorem dX0_multiply_42 : decode cX0_multiply 42 = .ok (.imul, 1) := by decide +kernel
theorem dX0_multiply_43 : decode cX0_multiply 43 = .ok (.invokevirtual 93, 3) := by decide +kernel
theorem dX0_multiply_46 : decode cX0_multiply 46 = .ok (.ifCond .eq 7, 3) := by decide +kernel
theorem dX0_multiply_49 : decode cX0_multiply 49 = .ok (.iconst 1, 1) := by decide +kernel
theorem dX0_multiply_50 : decode cX0_multiply 50 = .ok (.goto 4, 3) := by decide +kernel
theorem dX0_multiply_53 : decode cX0_multiply 53 = .ok (.iconst 0, 1) := by decide +kernel
theorem dX0_multiply_54 : decode cX0_multiply 54 = .ok (.ireturn, 1) := by decide +kernel
theorem dX0_divide_0 : decode cX0_divide 0 = .ok (.aload_n 0, 1) := by decide +kernel
theorem dX0_divide_1 : decode cX0_divide 1 = .ok (.iload_n 1, 1) := by decide +kernel
theorem dX0_divide_2 : decode cX0_divide 2 = .ok (.iload_n 3, 1) := by decide +kernel
theorem dX0_divide_3 : decode cX0_divide 3 = .ok (.invokevirtual 96, 3) := by decide +kernel
theorem dX0_divide_6 : decode cX0_divide 6 = .ok (.ifCond .ne 5, 3) := by decide +kernel
theorem dX0_divide_9 : decode cX0_divide 9 = .ok (.iconst 0, 1) := by decide +kernel
theorem dX0_divide_10 : decode cX0_divide 10 = .ok (.ireturn, 1) := by decide +kernel
theorem dX0_divide_11 : decode cX0_divide 11 = .ok (.aload_n 0, 1) := by decide +kernel
theorem dX0_divide_12 : decode cX0_divide 12 = .ok (.getfield 30, 3) := by decide +kernel
theorem dX0_divide_15 : decode cX0_divide 15 = .ok (.getfield 99, 3) := by decide +kernel
theorem dX0_divide_18 : decode cX0_divide 18 = .ok (.istore 4, 2) := by decide +kernel
theorem dX0_divide_20 : decode cX0_divide 20 = .ok (.aload_n 0, 1) := by decide +kernel
theorem dX0_divide_21 : decode cX0_divide 21 = .ok (.iload_n 2, 1) := by decide +kernel
theorem dX0_divide_22 : decode cX0_divide 22 = .ok (.iload_n 3, 1) := by decide +kernel
theorem dX0_divide_23 : decode cX0_divide 23 = .ok (.invokevirtual 96, 3) := by decide +kernel
theorem dX0_divide_26 : decode cX0_divide 26 = .ok (.ifCond .ne 5, 3) := by decide +kernel
theorem dX0_divide_29 : decode cX0_divide 29 = .ok (.iconst 0, 1) := by decide +kernel
theorem dX0_divide_30 : decode cX0_divide 30 = .ok (.ireturn, 1) := by decide +kernel
theorem dX0_divide_31 : decode cX0_divide 31 = .ok (.aload_n 0, 1) := by decide +kernel
theorem dX0_divide_32 : decode cX0_divide 32 = .ok (.getfield 30, 3) := by decide +kernel
theorem dX0_divide_35 : decode cX0_divide 35 = .ok (.getfield 99, 3) := by decide +kernel
theorem dX0_divide_38 : decode cX0_divide 38 = .ok (.istore 5, 2) := by decide +kernel
theorem dX0_divide_40 : decode cX0_divide 40 = .ok (.iload 5, 2) := by decide +kernel
theorem dX0_divide_42 : decode cX0_divide 42 = .ok (.ifCond .ne 15, 3) := by decide +kernel
theorem dX0_divide_45 : decode cX0_divide 45 = .ok (.aload_n 0, 1) := by decide +kernel
theorem dX0_divide_46 : decode cX0_divide 46 = .ok (.getfield 30, 3) := by decide +kernel
theorem dX0_divide_49 : decode cX0_divide 49 = .ok (.iconst 1, 1) := by decide +kernel
theorem dX0_divide_50 : decode cX0_divide 50 = .ok (.iconst 0, 1) := by decide +kernel
theorem dX0_divide_51 : decode cX0_divide 51 = .ok (.invokevirtual 55, 3) := by decide +kernel
theorem dX0_divide_54 : decode cX0_divide 54 = .ok (.goto 15, 3) := by decide +kernel
theorem dX0_divide_57 : decode cX0_divide 57 = .ok (.aload_n 0, 1) := by decide +kernel
theorem dX0_divide_58 : decode cX0_divide 58 = .ok (.getfield 30, 3) := by decide +kernel
theorem dX0_divide_61 : decode cX0_divide 61 = .ok (.iload 4, 2) := by decide +kernel
theorem dX0_divide_63 : decode cX0_divide 63 = .ok (.iload 5, 2) := by decide +kernel
theorem dX0_divide_65 : decode cX0_divide 65 = .ok (.idiv, 1) := by decide +kernel
theorem dX0_divide_66 : decode cX0_divide 66 = .ok (.invokevirtual 93, 3) := by decide +kernel
theorem dX0_divide_69 : decode cX0_divide 69 = .ok (.ireturn, 1) := by decide +kernel
theorem dX0_readItem_0 : decode cX0_readItem 0 = .ok (.aload_n 0, 1) := by decide +kernel
theorem dX0_readItem_1 : decode cX0_readItem 1 = .ok (.getfield 34, 3) := by decide +kernel
theorem dX0_readItem_4 : decode cX0_readItem 4 = .ok (.iload_n 1, 1) := by decide +kernel
theorem dX0_readItem_5 : decode cX0_readItem 5 = .ok (.iload_n 2, 1) := by decide +kernel
theorem dX0_readItem_6 : decode cX0_readItem 6 = .ok (.invokevirtual 122, 3) := by decide +kernel
theorem dX0_readItem_9 : decode cX0_readItem 9 = .ok (.ifCond .eq 21, 3) := by decide +kernel
theorem dX0_readItem_12 : decode cX0_readItem 12 = .ok (.aload_n 0, 1) := by decide +kernel
theorem dX0_readItem_13 : decode cX0_readItem 13 = .ok (.getfield 30, 3) := by decide +kernel
theorem dX0_readItem_16 : decode cX0_readItem 16 = .ok (.aload_n 0, 1) := by decide +kernel
theorem dX0_readItem_17 : decode cX0_readItem 17 = .ok (.getfield 17, 3) := by decide +kernel
theorem dX0_readItem_20 : decode cX0_readItem 20 = .ok (.iload_n 1, 1) := by decide +kernel
theorem dX0_readItem_21 : decode cX0_readItem 21 = .ok (.aaload, 1) := by decide +kernel
theorem dX0_readItem_22 : decode cX0_readItem 22 = .ok (.iload_n 2, 1) := by decide +kernel
theorem dX0_readItem_23 : decode cX0_readItem 23 = .ok (.iaload, 1) := by decide +kernel
theorem dX0_readItem_24 : decode cX0_readItem 24 = .ok (.invokevirtual 93, 3) := by decide +kernel
theorem dX0_readItem_27 : decode cX0_readItem 27 = .ok (.goto 12, 3) := by decide +kernel
theorem dX0_readItem_30 : decode cX0_readItem 30 = .ok (.aload_n 0, 1) := by decide +kernel
theorem dX0_readItem_31 : decode cX0_readItem 31 = .ok (.getfield 30, 3) := by decide +kernel
theorem dX0_readItem_34 : decode cX0_readItem 34 = .ok (.iconst 2, 1) := by decide +kernel
theorem dX0_readItem_35 : decode cX0_readItem 35 = .ok (.iconst 0, 1) := by decide +kernel
theorem dX0_readItem_36 : decode cX0_readItem 36 = .ok (.invokevirtual 55, 3) := by decide +kernel
theorem dX0_readItem_39 : decode cX0_readItem 39 = .ok (.ireturn, 1) := by decide +kernel
theorem dX0_writeItem_0 : decode cX0_writeItem 0 = .ok (.aload_n 0, 1) := by decide +kernel
theorem dX0_writeItem_1 : decode cX0_writeItem 1 = .ok (.getfield 34, 3) := by decide +kernel
theorem dX0_writeItem_4 : decode cX0_writeItem 4 = .ok (.iload_n 1, 1) := by decide +kernel
theorem dX0_writeItem_5 : decode cX0_writeItem 5 = .ok (.iload_n 2, 1) := by decide +kernel
theorem dX0_writeItem_6 : decode cX0_writeItem 6 = .ok (.invokevirtual 122, 3) := by decide +kernel
theorem dX0_writeItem_9 : decode cX0_writeItem 9 = .ok (.ifCond .ne 13, 3) := by decide +kernel
theorem dX0_writeItem_12 : decode cX0_writeItem 12 = .ok (.aload_n 0, 1) := by decide +kernel
theorem dX0_writeItem_13 : decode cX0_writeItem 13 = .ok (.getfield 30, 3) := by decide +kernel
theorem dX0_writeItem_16 : decode cX0_writeItem 16 = .ok (.iconst 2, 1) := by decide +kernel
theorem dX0_writeItem_17 : decode cX0_writeItem 17 = .ok (.iconst 0, 1) := by decide +kernel
theorem dX0_writeItem_18 : decode cX0_writeItem 18 = .ok (.invokevirtual 55, 3) := by decide +kernel
theorem dX0_writeItem_21 : decode cX0_writeItem 21 = .ok (.ireturn, 1) := by decide +kernel
theorem dX0_writeItem_22 : decode cX0_writeItem 22 = .ok (.aload_n 0, 1) := by decide +kernel
theorem dX0_writeItem_23 : decode cX0_writeItem 23 = .ok (.getfield 17, 3) := by decide +kernel
theorem dX0_writeItem_26 : decode cX0_writeItem 26 = .ok (.iload_n 1, 1) := by decide +kernel
theorem dX0_writeItem_27 : decode cX0_writeItem 27 = .ok (.aaload, 1) := by decide +kernel
theorem dX0_writeItem_28 : decode cX0_writeItem 28 = .ok (.iload_n 2, 1) := by decide +kernel
theorem dX0_writeItem_29 : decode cX0_writeItem 29 = .ok (.iload_n 3, 1) := by decide +kernel
theorem dX0_writeItem_30 : decode cX0_writeItem 30 = .ok (.iastore, 1) := by decide +kernel
theorem dX0_writeItem_31 : decode cX0_writeItem 31 = .ok (.aload_n 0, 1) := by decide +kernel
theorem dX0_writeItem_32 : decode cX0_writeItem 32 = .ok (.getfield 30, 3) := by decide +kernel
theorem dX0_writeItem_35 : decode cX0_writeItem 35 = .ok (.iload_n 3, 1) := by decide +kernel
theorem dX0_writeItem_36 : decode cX0_writeItem 36 = .ok (.invokevirtual 93, 3) := by decide +kernel
theorem dX0_writeItem_39 : decode cX0_writeItem 39 = .ok (.ireturn, 1) := by decide +kernel
theorem dX0_begin_0 : decode cX0_begin 0 = .ok (.aload_n 0, 1) := by decide +kernel
theorem dX0_begin_1 : decode cX0_begin 1 = .ok (.getfield 9, 3) := by decide +kernel
theorem dX0_begin_4 : decode cX0_begin 4 = .ok (.iload_n 1, 1) := by decide +kernel
theorem dX0_begin_5 : decode cX0_begin 5 = .ok (.iaload, 1) := by decide +kernel
theorem dX0_begin_6 : decode cX0_begin 6 = .ok (.iconst 1, 1) := by decide +kernel
theorem dX0_begin_7 : decode cX0_begin 7 = .ok (.if_icmp .eq 13, 3) := by decide +kernel
theorem dX0_begin_10 : decode cX0_begin 10 = .ok (.aload_n 0, 1) := by decide +kernel
theorem dX0_begin_11 : decode cX0_begin 11 = .ok (.getfield 9, 3) := by decide +kernel
theorem dX0_begin_14 : decode cX0_begin 14 = .ok (.iload_n 1, 1) := by decide +kernel
theorem dX0_begin_15 : decode cX0_begin 15 = .ok (.iaload, 1) := by decide +kernel
theorem dX0_begin_16 : decode cX0_begin 16 = .ok (.iconst 2, 1) := by decide +kernel
theorem dX0_begin_17 : decode cX0_begin 17 = .ok (.if_icmp .ne 5, 3) := by decide +kernel
theorem dX0_begin_20 : decode cX0_begin 20 = .ok (.iconst 1, 1) := by decide +kernel
theorem dX0_begin_21 : decode cX0_begin 21 = .ok (.ireturn, 1) := by decide +kernel
theorem dX0_begin_22 : decode cX0_begin 22 = .ok (.aload_n 0, 1) := by decide +kernel
theorem dX0_begin_23 : decode cX0_begin 23 = .ok (.getfield 9, 3) := by decide +kernel
theorem dX0_begin_26 : decode cX0_begin 26 = .ok (.iload_n 1, 1) := by decide +kernel
theorem dX0_begin_27 : decode cX0_begin 27 = .ok (.iaload, 1) := by decide +kernel
theorem dX0_begin_28 : decode cX0_begin 28 = .ok (.iconst 3, 1) := by decide +kernel
theorem dX0_begin_29 : decode cX0_begin 29 = .ok (.if_icmp .eq 9, 3) := by decide +kernel
theorem dX0_begin_32 : decode cX0_begin 32 = .ok (.iload_n 2, 1) := by decide +kernel
theorem dX0_begin_33 : decode cX0_begin 33 = .ok (.bipush 66, 2) := by decide +kernel
theorem dX0_begin_35 : decode cX0_begin 35 = .ok (.if_icmp .le 14, 3) := by decide +kernel
theorem dX0_begin_38 : decode cX0_begin 38 = .ok (.aload_n 0, 1) := by decide +kernel
theorem dX0_begin_39 : decode cX0_begin 39 = .ok (.getfield 30, 3) := by decide +kernel
theorem dX0_begin_42 : decode cX0_begin 42 = .ok (.bipush 6, 2) := by decide +kernel
theorem dX0_begin_44 : decode cX0_begin 44 = .ok (.iload_n 1, 1) := by decide +kernel
theorem dX0_begin_45 : decode cX0_begin 45 = .ok (.invokevirtual 55, 3) := by decide +kernel
theorem dX0_begin_48 : decode cX0_begin 48 = .ok (.ireturn, 1) := by decide +kernel
theorem dX0_begin_49 : decode cX0_begin 49 = .ok (.aload_n 0, 1) := by decide +kernel
theorem dX0_begin_50 : decode cX0_begin 50 = .ok (.getfield 9, 3) := by decide +kernel
theorem dX0_begin_53 : decode cX0_begin 53 = .ok (.iload_n 1, 1) := by decide +kernel
theorem dX0_begin_54 : decode cX0_begin 54 = .ok (.iconst 2, 1) := by decide +kernel
theorem dX0_begin_55 : decode cX0_begin 55 = .ok (.iastore, 1) := by decide +kernel
theorem dX0_begin_56 : decode cX0_begin 56 = .ok (.aload_n 0, 1) := by decide +kernel
theorem dX0_begin_57 : decode cX0_begin 57 = .ok (.getfield 38, 3) := by decide +kernel
theorem dX0_begin_60 : decode cX0_begin 60 = .ok (.iconst 0, 1) := by decide +kernel
theorem dX0_begin_61 : decode cX0_begin 61 = .ok (.iload_n 1, 1) := by decide +kernel
theorem dX0_begin_62 : decode cX0_begin 62 = .ok (.invokevirtual 75, 3) := by decide +kernel
theorem dX0_begin_65 : decode cX0_begin 65 = .ok (.aload_n 0, 1) := by decide +kernel
theorem dX0_begin_66 : decode cX0_begin 66 = .ok (.getfield 34, 3) := by decide +kernel
theorem dX0_begin_69 : decode cX0_begin 69 = .ok (.getfield 46, 3) := by decide +kernel
theorem dX0_begin_72 : decode cX0_begin 72 = .ok (.iload_n 1, 1) := by decide +kernel
theorem dX0_begin_73 : decode cX0_begin 73 = .ok (.aaload, 1) := by decide +kernel
theorem dX0_begin_74 : decode cX0_begin 74 = .ok (.iconst 0, 1) := by decide +kernel
theorem dX0_begin_75 : decode cX0_begin 75 = .ok (.aload_n 0, 1) := by decide +kernel
theorem dX0_begin_76 : decode cX0_begin 76 = .ok (.getfield 17, 3) := by decide +kernel
theorem dX0_begin_79 : decode cX0_begin 79 = .ok (.iload_n 1, 1) := by decide +kernel
theorem dX0_begin_80 : decode cX0_begin 80 = .ok (.aaload, 1) := by decide +kernel
theorem dX0_begin_81 : decode cX0_begin 81 = .ok (.iconst 0, 1) := by decide +kernel
theorem dX0_begin_82 : decode cX0_begin 82 = .ok (.bipush 8, 2) := by decide +kernel
theorem dX0_begin_84 : decode cX0_begin 84 = .ok (.invokestatic 125, 3) := by decide +kernel
theorem dX0_begin_87 : decode cX0_begin 87 = .ok (.aload_n 0, 1) := by decide +kernel
theorem dX0_begin_88 : decode cX0_begin 88 = .ok (.iload_n 1, 1) := by decide +kernel
theorem dX0_begin_89 : decode cX0_begin 89 = .ok (.iload_n 2, 1) := by decide +kernel
theorem dX0_begin_90 : decode cX0_begin 90 = .ok (.iconst 1, 1) := by decide +kernel
theorem dX0_begin_91 : decode cX0_begin 91 = .ok (.iadd, 1) := by decide +kernel
theorem dX0_begin_92 : decode cX0_begin 92 = .ok (.invokevirtual 131, 3) := by decide +kernel
theorem dX0_begin_95 : decode cX0_begin 95 = .ok (.ifCond .eq 18, 3) := by decide +kernel
theorem dX0_begin_98 : decode cX0_begin 98 = .ok (.aload_n 0, 1) := by decide +kernel
theorem dX0_begin_99 : decode cX0_begin 99 = .ok (.iload_n 1, 1) := by decide +kernel
theorem dX0_begin_100 : decode cX0_begin 100 = .ok (.iload_n 2, 1) := by decide +kernel
theorem dX0_begin_101 : decode cX0_begin 101 = .ok (.iconst 1, 1) := by decide +kernel
theorem dX0_begin_102 : decode cX0_begin 102 = .ok (.iadd, 1) := by decide +kernel
theorem dX0_begin_103 : decode cX0_begin 103 = .ok (.invokevirtual 134, 3) := by decide +kernel
theorem dX0_begin_106 : decode cX0_begin 106 = .ok (.ifCond .eq 7, 3) := by decide +kernel
theorem dX0_begin_109 : decode cX0_begin 109 = .ok (.iconst 1, 1) := by decide +kernel
theorem dX0_begin_110 : decode cX0_begin 110 = .ok (.goto 4, 3) := by decide +kernel
theorem dX0_begin_113 : decode cX0_begin 113 = .ok (.iconst 0, 1) := by decide +kernel
theorem dX0_begin_114 : decode cX0_begin 114 = .ok (.istore_n 3, 1) := by decide +kernel
theorem dX0_begin_115 : decode cX0_begin 115 = .ok (.aload_n 0, 1) := by decide +kernel
theorem dX0_begin_116 : decode cX0_begin 116 = .ok (.getfield 9, 3) := by decide +kernel
theorem dX0_begin_119 : decode cX0_begin 119 = .ok (.iload_n 1, 1) := by decide +kernel
theorem dX0_begin_120 : decode cX0_begin 120 = .ok (.iload_n 3, 1) := by decide +kernel
theorem dX0_begin_121 : decode cX0_begin 121 = .ok (.ifCond .eq 7, 3) := by decide +kernel
theorem dX0_begin_124 : decode cX0_begin 124 = .ok (.iconst 1, 1) := by decide +kernel
theorem dX0_begin_125 : decode cX0_begin 125 = .ok (.goto 4, 3) := by decide +kernel
theorem dX0_begin_128 : decode cX0_begin 128 = .ok (.iconst 3, 1) := by decide +kernel
theorem dX0_begin_129 : decode cX0_begin 129 = .ok (.iastore, 1) := by decide +kernel
theorem dX0_begin_130 : decode cX0_begin 130 = .ok (.aload_n 0, 1) := by decide +kernel
theorem dX0_begin_131 : decode cX0_begin 131 = .ok (.getfield 38, 3) := by decide +kernel
theorem dX0_begin_134 : decode cX0_begin 134 = .ok (.iload_n 3, 1) := by decide +kernel
theorem dX0_begin_135 : decode cX0_begin 135 = .ok (.ifCond .eq 7, 3) := by decide +kernel
theorem dX0_begin_138 : decode cX0_begin 138 = .ok (.iconst 1, 1) := by decide +kernel
theorem dX0_begin_139 : decode cX0_begin 139 = .ok (.goto 4, 3) := by decide +kernel
theorem dX0_begin_142 : decode cX0_begin 142 = .ok (.iconst 2, 1) := by decide +kernel
theorem dX0_begin_143 : decode cX0_begin 143 = .ok (.iload_n 1, 1) := by decide +kernel
theorem dX0_begin_144 : decode cX0_begin 144 = .ok (.invokevirtual 75, 3) := by decide +kernel
theorem dX0_begin_147 : decode cX0_begin 147 = .ok (.iload_n 3, 1) := by decide +kernel
theorem dX0_begin_148 : decode cX0_begin 148 = .ok (.ifCond .ne 14, 3) := by decide +kernel
theorem dX0_begin_151 : decode cX0_begin 151 = .ok (.aload_n 0, 1) := by decide +kernel
theorem dX0_begin_152 : decode cX0_begin 152 = .ok (.getfield 30, 3) := by decide +kernel
theorem dX0_begin_155 : decode cX0_begin 155 = .ok (.iload_n 1, 1) := by decide +kernel
theorem dX0_begin_156 : decode cX0_begin 156 = .ok (.invokevirtual 137, 3) := by decide +kernel
theorem dX0_begin_159 : decode cX0_begin 159 = .ok (.ifCond .eq 7, 3) := by decide +kernel
theorem dX0_begin_162 : decode cX0_begin 162 = .ok (.iconst 1, 1) := by decide +kernel
theorem dX0_begin_163 : decode cX0_begin 163 = .ok (.goto 4, 3) := by decide +kernel
theorem dX0_begin_166 : decode cX0_begin 166 = .ok (.iconst 0, 1) := by decide +kernel
theorem dX0_begin_167 : decode cX0_begin 167 = .ok (.ireturn, 1) := by decide +kernel
theorem dX0_beginUsed_0 : decode cX0_beginUsed 0 = .ok (.iconst 0, 1) := by decide +kernel
theorem dX0_beginUsed_1 : decode cX0_beginUsed 1 = .ok (.istore_n 3, 1) := by decide +kernel
theorem dX0_beginUsed_2 : decode cX0_beginUsed 2 = .ok (.iload_n 3, 1) := by decide +kernel
theorem dX0_beginUsed_3 : decode cX0_beginUsed 3 = .ok (.aload_n 0, 1) := by decide +kernel
theorem dX0_beginUsed_4 : decode cX0_beginUsed 4 = .ok (.getfield 34, 3) := by decide +kernel
theorem dX0_beginUsed_7 : decode cX0_beginUsed 7 = .ok (.getfield 140, 3) := by decide +kernel
theorem dX0_beginUsed_10 : decode cX0_beginUsed 10 = .ok (.iload_n 1, 1) := by decide +kernel
theorem dX0_beginUsed_11 : decode cX0_beginUsed 11 = .ok (.iaload, 1) := by decide +kernel
theorem dX0_beginUsed_12 : decode cX0_beginUsed 12 = .ok (.if_icmp .ge 30, 3) := by decide +kernel
theorem dX0_beginUsed_15 : decode cX0_beginUsed 15 = .ok (.aload_n 0, 1) := by decide +kernel
theorem dX0_beginUsed_16 : decode cX0_beginUsed 16 = .ok (.aload_n 0, 1) := by decide +kernel
theorem dX0_beginUsed_17 : decode cX0_beginUsed 17 = .ok (.getfield 34, 3) := by decide +kernel
theorem dX0_beginUsed_20 : decode cX0_beginUsed 20 = .ok (.getfield 143, 3) := by decide +kernel
theorem dX0_beginUsed_23 : decode cX0_beginUsed 23 = .ok (.iload_n 1, 1) := by decide +kernel
theorem dX0_beginUsed_24 : decode cX0_beginUsed 24 = .ok (.aaload, 1) := by decide +kernel
theorem dX0_beginUsed_25 : decode cX0_beginUsed 25 = .ok (.iload_n 3, 1) := by decide +kernel
theorem dX0_beginUsed_26 : decode cX0_beginUsed 26 = .ok (.iaload, 1) := by decide +kernel
theorem dX0_beginUsed_27 : decode cX0_beginUsed 27 = .ok (.iload_n 2, 1) := by decide +kernel
theorem dX0_beginUsed_28 : decode cX0_beginUsed 28 = .ok (.invokevirtual 62, 3) := by decide +kernel
theorem dX0_beginUsed_31 : decode cX0_beginUsed 31 = .ok (.ifCond .ne 5, 3) := by decide +kernel
theorem dX0_beginUsed_34 : decode cX0_beginUsed 34 = .ok (.iconst 0, 1) := by decide +kernel
theorem dX0_beginUsed_35 : decode cX0_beginUsed 35 = .ok (.ireturn, 1) := by decide +kernel
theorem dX0_beginUsed_36 : decode cX0_beginUsed 36 = .ok (.iinc 3 1, 3) := by decide +kernel
theorem dX0_beginUsed_39 : decode cX0_beginUsed 39 = .ok (.goto (-37), 3) := by decide +kernel
theorem dX0_beginUsed_42 : decode cX0_beginUsed 42 = .ok (.iconst 1, 1) := by decide +kernel
theorem dX0_beginUsed_43 : decode cX0_beginUsed 43 = .ok (.ireturn, 1) := by decide +kernel
theorem dX0_doDeeds_0 : decode cX0_doDeeds 0 = .ok (.iconst 0, 1) := by decide +kernel
theorem dX0_doDeeds_1 : decode cX0_doDeeds 1 = .ok (.istore_n 3, 1) := by decide +kernel
theorem dX0_doDeeds_2 : decode cX0_doDeeds 2 = .ok (.iload_n 3, 1) := by decide +kernel
theorem dX0_doDeeds_3 : decode cX0_doDeeds 3 = .ok (.aload_n 0, 1) := by decide +kernel
theorem dX0_doDeeds_4 : decode cX0_doDeeds 4 = .ok (.getfield 34, 3) := by decide +kernel
theorem dX0_doDeeds_7 : decode cX0_doDeeds 7 = .ok (.getfield 146, 3) := by decide +kernel
theorem dX0_doDeeds_10 : decode cX0_doDeeds 10 = .ok (.iload_n 1, 1) := by decide +kernel
theorem dX0_doDeeds_11 : decode cX0_doDeeds 11 = .ok (.iaload, 1) := by decide +kernel
theorem dX0_doDeeds_12 : decode cX0_doDeeds 12 = .ok (.if_icmp .ge 41, 3) := by decide +kernel
theorem dX0_doDeeds_15 : decode cX0_doDeeds 15 = .ok (.aload_n 0, 1) := by decide +kernel
theorem dX0_doDeeds_16 : decode cX0_doDeeds 16 = .ok (.aload_n 0, 1) := by decide +kernel
theorem dX0_doDeeds_17 : decode cX0_doDeeds 17 = .ok (.getfield 34, 3) := by decide +kernel
theorem dX0_doDeeds_20 : decode cX0_doDeeds 20 = .ok (.getfield 149, 3) := by decide +kernel
theorem dX0_doDeeds_23 : decode cX0_doDeeds 23 = .ok (.iload_n 1, 1) := by decide +kernel
theorem dX0_doDeeds_24 : decode cX0_doDeeds 24 = .ok (.aaload, 1) := by decide +kernel
theorem dX0_doDeeds_25 : decode cX0_doDeeds 25 = .ok (.iload_n 3, 1) := by decide +kernel
theorem dX0_doDeeds_26 : decode cX0_doDeeds 26 = .ok (.iaload, 1) := by decide +kernel
theorem dX0_doDeeds_27 : decode cX0_doDeeds 27 = .ok (.aload_n 0, 1) := by decide +kernel
theorem dX0_doDeeds_28 : decode cX0_doDeeds 28 = .ok (.getfield 34, 3) := by decide +kernel
theorem dX0_doDeeds_31 : decode cX0_doDeeds 31 = .ok (.getfield 152, 3) := by decide +kernel
theorem dX0_doDeeds_34 : decode cX0_doDeeds 34 = .ok (.iload_n 1, 1) := by decide +kernel
theorem dX0_doDeeds_35 : decode cX0_doDeeds 35 = .ok (.aaload, 1) := by decide +kernel
theorem dX0_doDeeds_36 : decode cX0_doDeeds 36 = .ok (.iload_n 3, 1) := by decide +kernel
theorem dX0_doDeeds_37 : decode cX0_doDeeds 37 = .ok (.iaload, 1) := by decide +kernel
theorem dX0_doDeeds_38 : decode cX0_doDeeds 38 = .ok (.iload_n 2, 1) := by decide +kernel
theorem dX0_doDeeds_39 : decode cX0_doDeeds 39 = .ok (.invokevirtual 155, 3) := by decide +kernel
theorem dX0_doDeeds_42 : decode cX0_doDeeds 42 = .ok (.ifCond .ne 5, 3) := by decide +kernel
theorem dX0_doDeeds_45 : decode cX0_doDeeds 45 = .ok (.iconst 0, 1) := by decide +kernel
theorem dX0_doDeeds_46 : decode cX0_doDeeds 46 = .ok (.ireturn, 1) := by decide +kernel
theorem dX0_doDeeds_47 : decode cX0_doDeeds 47 = .ok (.iinc 3 1, 3) := by decide +kernel
theorem dX0_doDeeds_50 : decode cX0_doDeeds 50 = .ok (.goto (-48), 3) := by decide +kernel
theorem dX0_doDeeds_53 : decode cX0_doDeeds 53 = .ok (.iconst 1, 1) := by decide +kernel
theorem dX0_doDeeds_54 : decode cX0_doDeeds 54 = .ok (.ireturn, 1) := by decide +kernel
theorem dX0_doDeed_0 : decode cX0_doDeed 0 = .ok (.iload_n 1, 1) := by decide +kernel
theorem dX0_doDeed_1 : decode cX0_doDeed 1 = .ok (.lookupswitch 41 #[(0, 27), (1, 34)], 27) := by decide +kernel
theorem dX0_doDeed_28 : decode cX0_doDeed 28 = .ok (.aload_n 0, 1) := by decide +kernel
theorem dX0_doDeed_29 : decode cX0_doDeed 29 = .ok (.iload_n 2, 1) := by decide +kernel
theorem dX0_doDeed_30 : decode cX0_doDeed 30 = .ok (.iload_n 3, 1) := by decide +kernel
theorem dX0_doDeed_31 : decode cX0_doDeed 31 = .ok (.invokevirtual 96, 3) := by decide +kernel
theorem dX0_doDeed_34 : decode cX0_doDeed 34 = .ok (.ireturn, 1) := by decide +kernel
theorem dX0_doDeed_35 : decode cX0_doDeed 35 = .ok (.aload_n 0, 1) := by decide +kernel
theorem dX0_doDeed_36 : decode cX0_doDeed 36 = .ok (.iload_n 2, 1) := by decide +kernel
theorem dX0_doDeed_37 : decode cX0_doDeed 37 = .ok (.iload_n 3, 1) := by decide +kernel
theorem dX0_doDeed_38 : decode cX0_doDeed 38 = .ok (.invokevirtual 62, 3) := by decide +kernel
theorem dX0_doDeed_41 : decode cX0_doDeed 41 = .ok (.ireturn, 1) := by decide +kernel
theorem dX0_doDeed_42 : decode cX0_doDeed 42 = .ok (.aload_n 0, 1) := by decide +kernel
theorem dX0_doDeed_43 : decode cX0_doDeed 43 = .ok (.getfield 30, 3) := by decide +kernel
theorem dX0_doDeed_46 : decode cX0_doDeed 46 = .ok (.bipush 7, 2) := by decide +kernel
theorem dX0_doDeed_48 : decode cX0_doDeed 48 = .ok (.iload_n 2, 1) := by decide +kernel
theorem dX0_doDeed_49 : decode cX0_doDeed 49 = .ok (.invokevirtual 55, 3) := by decide +kernel
theorem dX0_doDeed_52 : decode cX0_doDeed 52 = .ok (.ireturn, 1) := by decide +kernel
theorem dX1_init_0 : decode cX1_init 0 = .ok (.aload_n 0, 1) := by decide +kernel
theorem dX1_init_1 : decode cX1_init 1 = .ok (.invokespecial 3, 3) := by decide +kernel
theorem dX1_init_4 : decode cX1_init 4 = .ok (.return_, 1) := by decide +kernel
theorem dX1_succeed_0 : decode cX1_succeed 0 = .ok (.aload_n 0, 1) := by decide +kernel
theorem dX1_succeed_1 : decode cX1_succeed 1 = .ok (.iload_n 1, 1) := by decide +kernel
theorem dX1_succeed_2 : decode cX1_succeed 2 = .ok (.putfield 9, 3) := by decide +kernel
theorem dX1_succeed_5 : decode cX1_succeed 5 = .ok (.aload_n 0, 1) := by decide +kernel
theorem dX1_succeed_6 : decode cX1_succeed 6 = .ok (.iconst 0, 1) := by decide +kernel
theorem dX1_succeed_7 : decode cX1_succeed 7 = .ok (.putfield 15, 3) := by decide +kernel
theorem dX1_succeed_10 : decode cX1_succeed 10 = .ok (.aload_n 0, 1) := by decide +kernel
theorem dX1_succeed_11 : decode cX1_succeed 11 = .ok (.iconst 0, 1) := by decide +kernel
theorem dX1_succeed_12 : decode cX1_succeed 12 = .ok (.putfield 18, 3) := by decide +kernel
theorem dX1_succeed_15 : decode cX1_succeed 15 = .ok (.aload_n 0, 1) := by decide +kernel
theorem dX1_succeed_16 : decode cX1_succeed 16 = .ok (.iconst 0, 1) := by decide +kernel
theorem dX1_succeed_17 : decode cX1_succeed 17 = .ok (.putfield 21, 3) := by decide +kernel
theorem dX1_succeed_20 : decode cX1_succeed 20 = .ok (.aload_n 0, 1) := by decide +kernel
theorem dX1_succeed_21 : decode cX1_succeed 21 = .ok (.iconst 0, 1) := by decide +kernel
theorem dX1_succeed_22 : decode cX1_succeed 22 = .ok (.putfield 24, 3) := by decide +kernel
theorem dX1_succeed_25 : decode cX1_succeed 25 = .ok (.iconst 1, 1) := by decide +kernel
theorem dX1_succeed_26 : decode cX1_succeed 26 = .ok (.ireturn, 1) := by decide +kernel
theorem dX1_fail_0 : decode cX1_fail 0 = .ok (.aload_n 0, 1) := by decide +kernel
theorem dX1_fail_1 : decode cX1_fail 1 = .ok (.iconst 0, 1) := by decide +kernel
theorem dX1_fail_2 : decode cX1_fail 2 = .ok (.putfield 9, 3) := by decide +kernel
theorem dX1_fail_5 : decode cX1_fail 5 = .ok (.aload_n 0, 1) := by decide +kernel
theorem dX1_fail_6 : decode cX1_fail 6 = .ok (.iload_n 1, 1) := by decide +kernel
theorem dX1_fail_7 : decode cX1_fail 7 = .ok (.putfield 15, 3) := by decide +kernel
theorem dX1_fail_10 : decode cX1_fail 10 = .ok (.aload_n 0, 1) := by decide +kernel
theorem dX1_fail_11 : decode cX1_fail 11 = .ok (.iload_n 2, 1) := by decide +kernel
theorem dX1_fail_12 : decode cX1_fail 12 = .ok (.putfield 18, 3) := by decide +kernel
theorem dX1_fail_15 : decode cX1_fail 15 = .ok (.aload_n 0, 1) := by decide +kernel
theorem dX1_fail_16 : decode cX1_fail 16 = .ok (.iload_n 1, 1) := by decide +kernel
theorem dX1_fail_17 : decode cX1_fail 17 = .ok (.putfield 21, 3) := by decide +kernel
theorem dX1_fail_20 : decode cX1_fail 20 = .ok (.aload_n 0, 1) := by decide +kernel
theorem dX1_fail_21 : decode cX1_fail 21 = .ok (.iload_n 2, 1) := by decide +kernel
theorem dX1_fail_22 : decode cX1_fail 22 = .ok (.putfield 24, 3) := by decide +kernel
theorem dX1_fail_25 : decode cX1_fail 25 = .ok (.iconst 0, 1) := by decide +kernel
theorem dX1_fail_26 : decode cX1_fail 26 = .ok (.ireturn, 1) := by decide +kernel
theorem dX1_failStart_0 : decode cX1_failStart 0 = .ok (.aload_n 0, 1) := by decide +kernel
theorem dX1_failStart_1 : decode cX1_failStart 1 = .ok (.iconst 5, 1) := by decide +kernel
theorem dX1_failStart_2 : decode cX1_failStart 2 = .ok (.putfield 15, 3) := by decide +kernel
theorem dX1_failStart_5 : decode cX1_failStart 5 = .ok (.aload_n 0, 1) := by decide +kernel
theorem dX1_failStart_6 : decode cX1_failStart 6 = .ok (.iload_n 1, 1) := by decide +kernel
theorem dX1_failStart_7 : decode cX1_failStart 7 = .ok (.putfield 18, 3) := by decide +kernel
theorem dX1_failStart_10 : decode cX1_failStart 10 = .ok (.iconst 0, 1) := by decide +kernel
theorem dX1_failStart_11 : decode cX1_failStart 11 = .ok (.ireturn, 1) := by decide +kernel
theorem dX1_copy_0 : decode cX1_copy 0 = .ok (.aload_n 0, 1) := by decide +kernel
theorem dX1_copy_1 : decode cX1_copy 1 = .ok (.aload_n 1, 1) := by decide +kernel
theorem dX1_copy_2 : decode cX1_copy 2 = .ok (.getfield 9, 3) := by decide +kernel
theorem dX1_copy_5 : decode cX1_copy 5 = .ok (.putfield 9, 3) := by decide +kernel
theorem dX1_copy_8 : decode cX1_copy 8 = .ok (.aload_n 0, 1) := by decide +kernel
theorem dX1_copy_9 : decode cX1_copy 9 = .ok (.aload_n 1, 1) := by decide +kernel
theorem dX1_copy_10 : decode cX1_copy 10 = .ok (.getfield 15, 3) := by decide +kernel
theorem dX1_copy_13 : decode cX1_copy 13 = .ok (.putfield 15, 3) := by decide +kernel
theorem dX1_copy_16 : decode cX1_copy 16 = .ok (.aload_n 0, 1) := by decide +kernel
theorem dX1_copy_17 : decode cX1_copy 17 = .ok (.aload_n 1, 1) := by decide +kernel
theorem dX1_copy_18 : decode cX1_copy 18 = .ok (.getfield 18, 3) := by decide +kernel
theorem dX1_copy_21 : decode cX1_copy 21 = .ok (.putfield 18, 3) := by decide +kernel
theorem dX1_copy_24 : decode cX1_copy 24 = .ok (.aload_n 0, 1) := by decide +kernel
theorem dX1_copy_25 : decode cX1_copy 25 = .ok (.aload_n 1, 1) := by decide +kernel
theorem dX1_copy_26 : decode cX1_copy 26 = .ok (.getfield 21, 3) := by decide +kernel
theorem dX1_copy_29 : decode cX1_copy 29 = .ok (.putfield 21, 3) := by decide +kernel
theorem dX1_copy_32 : decode cX1_copy 32 = .ok (.aload_n 0, 1) := by decide +kernel
theorem dX1_copy_33 : decode cX1_copy 33 = .ok (.aload_n 1, 1) := by decide +kernel
theorem dX1_copy_34 : decode cX1_copy 34 = .ok (.getfield 24, 3) := by decide +kernel
theorem dX1_copy_37 : decode cX1_copy 37 = .ok (.putfield 24, 3) := by decide +kernel
theorem dX1_copy_40 : decode cX1_copy 40 = .ok (.return_, 1) := by decide +kernel
theorem dX2_init_0 : decode cX2_init 0 = .ok (.aload_n 0, 1) := by decide +kernel
theorem dX2_init_1 : decode cX2_init 1 = .ok (.invokespecial 3, 3) := by decide +kernel
theorem dX2_init_4 : decode cX2_init 4 = .ok (.aload_n 0, 1) := by decide +kernel
theorem dX2_init_5 : decode cX2_init 5 = .ok (.bipush 12, 2) := by decide +kernel
theorem dX2_init_7 : decode cX2_init 7 = .ok (.newarray .int, 2) := by decide +kernel
theorem dX2_init_9 : decode cX2_init 9 = .ok (.putfield 9, 3) := by decide +kernel
theorem dX2_init_12 : decode cX2_init 12 = .ok (.aload_n 0, 1) := by decide +kernel
theorem dX2_init_13 : decode cX2_init 13 = .ok (.bipush 12, 2) := by decide +kernel
theorem dX2_init_15 : decode cX2_init 15 = .ok (.bipush 8, 2) := by decide +kernel
theorem dX2_init_17 : decode cX2_init 17 = .ok (.multianewarray 15 2, 4) := by decide +kernel
theorem dX2_init_21 : decode cX2_init 21 = .ok (.putfield 17, 3) := by decide +kernel
theorem dX2_init_24 : decode cX2_init 24 = .ok (.aload_n 0, 1) := by decide +kernel
theorem dX2_init_25 : decode cX2_init 25 = .ok (.bipush 12, 2) := by decide +kernel
theorem dX2_init_27 : decode cX2_init 27 = .ok (.newarray .int, 2) := by decide +kernel
theorem dX2_init_29 : decode cX2_init 29 = .ok (.putfield 20, 3) := by decide +kernel
theorem dX2_init_32 : decode cX2_init 32 = .ok (.aload_n 0, 1) := by decide +kernel
theorem dX2_init_33 : decode cX2_init 33 = .ok (.bipush 12, 2) := by decide +kernel
theorem dX2_init_35 : decode cX2_init 35 = .ok (.bipush 6, 2) := by decide +kernel
theorem dX2_init_37 : decode cX2_init 37 = .ok (.multianewarray 15 2, 4) := by decide +kernel
theorem dX2_init_41 : decode cX2_init 41 = .ok (.putfield 23, 3) := by decide +kernel
theorem dX2_init_44 : decode cX2_init 44 = .ok (.aload_n 0, 1) := by decide +kernel
theorem dX2_init_45 : decode cX2_init 45 = .ok (.bipush 12, 2) := by decide +kernel
theorem dX2_init_47 : decode cX2_init 47 = .ok (.newarray .int, 2) := by decide +kernel
theorem dX2_init_49 : decode cX2_init 49 = .ok (.putfield 26, 3) := by decide +kernel
theorem dX2_init_52 : decode cX2_init 52 = .ok (.aload_n 0, 1) := by decide +kernel
theorem dX2_init_53 : decode cX2_init 53 = .ok (.bipush 12, 2) := by decide +kernel
theorem dX2_init_55 : decode cX2_init 55 = .ok (.bipush 6, 2) := by decide +kernel
theorem dX2_init_57 : decode cX2_init 57 = .ok (.multianewarray 15 2, 4) := by decide +kernel
theorem dX2_init_61 : decode cX2_init 61 = .ok (.putfield 29, 3) := by decide +kernel
theorem dX2_init_64 : decode cX2_init 64 = .ok (.aload_n 0, 1) := by decide +kernel
theorem dX2_init_65 : decode cX2_init 65 = .ok (.bipush 12, 2) := by decide +kernel
theorem dX2_init_67 : decode cX2_init 67 = .ok (.bipush 6, 2) := by decide +kernel
theorem dX2_init_69 : decode cX2_init 69 = .ok (.multianewarray 15 2, 4) := by decide +kernel
theorem dX2_init_73 : decode cX2_init 73 = .ok (.putfield 32, 3) := by decide +kernel
theorem dX2_init_76 : decode cX2_init 76 = .ok (.aload_n 0, 1) := by decide +kernel
theorem dX2_init_77 : decode cX2_init 77 = .ok (.bipush 40, 2) := by decide +kernel
theorem dX2_init_79 : decode cX2_init 79 = .ok (.newarray .int, 2) := by decide +kernel
theorem dX2_init_81 : decode cX2_init 81 = .ok (.putfield 35, 3) := by decide +kernel
theorem dX2_init_84 : decode cX2_init 84 = .ok (.aload_n 0, 1) := by decide +kernel
theorem dX2_init_85 : decode cX2_init 85 = .ok (.bipush 40, 2) := by decide +kernel
theorem dX2_init_87 : decode cX2_init 87 = .ok (.newarray .int, 2) := by decide +kernel
theorem dX2_init_89 : decode cX2_init 89 = .ok (.putfield 38, 3) := by decide +kernel
theorem dX2_init_92 : decode cX2_init 92 = .ok (.aload_n 0, 1) := by decide +kernel
theorem dX2_init_93 : decode cX2_init 93 = .ok (.bipush 40, 2) := by decide +kernel
theorem dX2_init_95 : decode cX2_init 95 = .ok (.newarray .int, 2) := by decide +kernel
theorem dX2_init_97 : decode cX2_init 97 = .ok (.putfield 41, 3) := by decide +kernel
theorem dX2_init_100 : decode cX2_init 100 = .ok (.aload_n 0, 1) := by decide +kernel
theorem dX2_init_101 : decode cX2_init 101 = .ok (.bipush 40, 2) := by decide +kernel
theorem dX2_init_103 : decode cX2_init 103 = .ok (.newarray .int, 2) := by decide +kernel
theorem dX2_init_105 : decode cX2_init 105 = .ok (.putfield 44, 3) := by decide +kernel
theorem dX2_init_108 : decode cX2_init 108 = .ok (.aload_n 0, 1) := by decide +kernel
theorem dX2_init_109 : decode cX2_init 109 = .ok (.bipush 40, 2) := by decide +kernel
theorem dX2_init_111 : decode cX2_init 111 = .ok (.newarray .int, 2) := by decide +kernel
theorem dX2_init_113 : decode cX2_init 113 = .ok (.putfield 47, 3) := by decide +kernel
theorem dX2_init_116 : decode cX2_init 116 = .ok (.return_, 1) := by decide +kernel
theorem dX2_hasModule_0 : decode cX2_hasModule 0 = .ok (.iload_n 1, 1) := by decide +kernel
theorem dX2_hasModule_1 : decode cX2_hasModule 1 = .ok (.ifCond .lt 15, 3) := by decide +kernel
theorem dX2_hasModule_4 : decode cX2_hasModule 4 = .ok (.iload_n 1, 1) := by decide +kernel
theorem dX2_hasModule_5 : decode cX2_hasModule 5 = .ok (.aload_n 0, 1) := by decide +kernel
theorem dX2_hasModule_6 : decode cX2_hasModule 6 = .ok (.getfield 50, 3) := by decide +kernel
theorem dX2_hasModule_9 : decode cX2_hasModule 9 = .ok (.if_icmp .ge 7, 3) := by decide +kernel
theorem dX2_hasModule_12 : decode cX2_hasModule 12 = .ok (.iconst 1, 1) := by decide +kernel
theorem dX2_hasModule_13 : decode cX2_hasModule 13 = .ok (.goto 4, 3) := by decide +kernel
theorem dX2_hasModule_16 : decode cX2_hasModule 16 = .ok (.iconst 0, 1) := by decide +kernel
theorem dX2_hasModule_17 : decode cX2_hasModule 17 = .ok (.ireturn, 1) := by decide +kernel
theorem dX2_hasItem_0 : decode cX2_hasItem 0 = .ok (.aload_n 0, 1) := by decide +kernel
theorem dX2_hasItem_1 : decode cX2_hasItem 1 = .ok (.iload_n 1, 1) := by decide +kernel
theorem dX2_hasItem_2 : decode cX2_hasItem 2 = .ok (.invokevirtual 54, 3) := by decide +kernel
theorem dX2_hasItem_5 : decode cX2_hasItem 5 = .ok (.ifCond .eq 21, 3) := by decide +kernel
theorem dX2_hasItem_8 : decode cX2_hasItem 8 = .ok (.iload_n 2, 1) := by decide +kernel
theorem dX2_hasItem_9 : decode cX2_hasItem 9 = .ok (.ifCond .lt 17, 3) := by decide +kernel
theorem dX2_hasItem_12 : decode cX2_hasItem 12 = .ok (.iload_n 2, 1) := by decide +kernel
theorem dX2_hasItem_13 : decode cX2_hasItem 13 = .ok (.aload_n 0, 1) := by decide +kernel
theorem dX2_hasItem_14 : decode cX2_hasItem 14 = .ok (.getfield 9, 3) := by decide +kernel
theorem dX2_hasItem_17 : decode cX2_hasItem 17 = .ok (.iload_n 1, 1) := by decide +kernel
theorem dX2_hasItem_18 : decode cX2_hasItem 18 = .ok (.iaload, 1) := by decide +kernel
theorem dX2_hasItem_19 : decode cX2_hasItem 19 = .ok (.if_icmp .ge 7, 3) := by decide +kernel
theorem dX2_hasItem_22 : decode cX2_hasItem 22 = .ok (.iconst 1, 1) := by decide +kernel
theorem dX2_hasItem_23 : decode cX2_hasItem 23 = .ok (.goto 4, 3) := by decide +kernel
theorem dX2_hasItem_26 : decode cX2_hasItem 26 = .ok (.iconst 0, 1) := by decide +kernel
theorem dX2_hasItem_27 : decode cX2_hasItem 27 = .ok (.ireturn, 1) := by decide +kernel
theorem dX2_hasConstant_0 : decode cX2_hasConstant 0 = .ok (.iload_n 1, 1) := by decide +kernel
theorem dX2_hasConstant_1 : decode cX2_hasConstant 1 = .ok (.ifCond .lt 15, 3) := by decide +kernel
theorem dX2_hasConstant_4 : decode cX2_hasConstant 4 = .ok (.iload_n 1, 1) := by decide +kernel
theorem dX2_hasConstant_5 : decode cX2_hasConstant 5 = .ok (.aload_n 0, 1) := by decide +kernel
theorem dX2_hasConstant_6 : decode cX2_hasConstant 6 = .ok (.getfield 58, 3) := by decide +kernel
theorem dX2_hasConstant_9 : decode cX2_hasConstant 9 = .ok (.if_icmp .ge 7, 3) := by decide +kernel
theorem dX2_hasConstant_12 : decode cX2_hasConstant 12 = .ok (.iconst 1, 1) := by decide +kernel
theorem dX2_hasConstant_13 : decode cX2_hasConstant 13 = .ok (.goto 4, 3) := by decide +kernel
theorem dX2_hasConstant_16 : decode cX2_hasConstant 16 = .ok (.iconst 0, 1) := by decide +kernel
theorem dX2_hasConstant_17 : decode cX2_hasConstant 17 = .ok (.ireturn, 1) := by decide +kernel
theorem dX2_addModule_0 : decode cX2_addModule 0 = .ok (.iload_n 1, 1) := by decide +kernel
theorem dX2_addModule_1 : decode cX2_addModule 1 = .ok (.ifCond .lt 9, 3) := by decide +kernel
theorem dX2_addModule_4 : decode cX2_addModule 4 = .ok (.iload_n 1, 1) := by decide +kernel
theorem dX2_addModule_5 : decode cX2_addModule 5 = .ok (.bipush 8, 2) := by decide +kernel
theorem dX2_addModule_7 : decode cX2_addModule 7 = .ok (.if_icmp .le 5, 3) := by decide +kernel
theorem dX2_addModule_10 : decode cX2_addModule 10 = .ok (.iconst (-1), 1) := by decide +kernel
theorem dX2_addModule_11 : decode cX2_addModule 11 = .ok (.ireturn, 1) := by decide +kernel
theorem dX2_addModule_12 : decode cX2_addModule 12 = .ok (.aload_n 0, 1) := by decide +kernel
theorem dX2_addModule_13 : decode cX2_addModule 13 = .ok (.getfield 50, 3) := by decide +kernel
theorem dX2_addModule_16 : decode cX2_addModule 16 = .ok (.bipush 12, 2) := by decide +kernel
theorem dX2_addModule_18 : decode cX2_addModule 18 = .ok (.if_icmp .lt 6, 3) := by decide +kernel
theorem dX2_addModule_21 : decode cX2_addModule 21 = .ok (.bipush (-2), 2) := by decide +kernel
theorem dX2_addModule_23 : decode cX2_addModule 23 = .ok (.ireturn, 1) := by decide +kernel
theorem dX2_addModule_24 : decode cX2_addModule 24 = .ok (.aload_n 0, 1) := by decide +kernel
theorem dX2_addModule_25 : decode cX2_addModule 25 = .ok (.getfield 9, 3) := by decide +kernel
theorem dX2_addModule_28 : decode cX2_addModule 28 = .ok (.aload_n 0, 1) := by decide +kernel
theorem dX2_addModule_29 : decode cX2_addModule 29 = .ok (.getfield 50, 3) := by decide +kernel
theorem dX2_addModule_32 : decode cX2_addModule 32 = .ok (.iload_n 1, 1) := by decide +kernel
theorem dX2_addModule_33 : decode cX2_addModule 33 = .ok (.iastore, 1) := by decide +kernel
theorem dX2_addModule_34 : decode cX2_addModule 34 = .ok (.aload_n 0, 1) := by decide +kernel
theorem dX2_addModule_35 : decode cX2_addModule 35 = .ok (.dup, 1) := by decide +kernel
theorem dX2_addModule_36 : decode cX2_addModule 36 = .ok (.getfield 50, 3) := by decide +kernel
theorem dX2_addModule_39 : decode cX2_addModule 39 = .ok (.dup_x1, 1) := by decide +kernel
theorem dX2_addModule_40 : decode cX2_addModule 40 = .ok (.iconst 1, 1) := by decide +kernel
theorem dX2_addModule_41 : decode cX2_addModule 41 = .ok (.iadd, 1) := by decide +kernel
theorem dX2_addModule_42 : decode cX2_addModule 42 = .ok (.putfield 50, 3) := by decide +kernel
theorem dX2_addModule_45 : decode cX2_addModule 45 = .ok (.ireturn, 1) := by decide +kernel
theorem dX2_setItem_0 : decode cX2_setItem 0 = .ok (.aload_n 0, 1) := by decide +kernel
theorem dX2_setItem_1 : decode cX2_setItem 1 = .ok (.iload_n 1, 1) := by decide +kernel
theorem dX2_setItem_2 : decode cX2_setItem 2 = .ok (.iload_n 2, 1) := by decide +kernel
theorem dX2_setItem_3 : decode cX2_setItem 3 = .ok (.invokevirtual 61, 3) := by decide +kernel
theorem dX2_setItem_6 : decode cX2_setItem 6 = .ok (.ifCond .ne 5, 3) := by decide +kernel
theorem dX2_setItem_9 : decode cX2_setItem 9 = .ok (.iconst (-1), 1) := by decide +kernel
theorem dX2_setItem_10 : decode cX2_setItem 10 = .ok (.ireturn, 1) := by decide +kernel
theorem dX2_setItem_11 : decode cX2_setItem 11 = .ok (.aload_n 0, 1) := by decide +kernel
theorem dX2_setItem_12 : decode cX2_setItem 12 = .ok (.getfield 17, 3) := by decide +kernel
theorem dX2_setItem_15 : decode cX2_setItem 15 = .ok (.iload_n 1, 1) := by decide +kernel
theorem dX2_setItem_16 : decode cX2_setItem 16 = .ok (.aaload, 1) := by decide +kernel
theorem dX2_setItem_17 : decode cX2_setItem 17 = .ok (.iload_n 2, 1) := by decide +kernel
theorem dX2_setItem_18 : decode cX2_setItem 18 = .ok (.iload_n 3, 1) := by decide +kernel
theorem dX2_setItem_19 : decode cX2_setItem 19 = .ok (.iastore, 1) := by decide +kernel
theorem dX2_setItem_20 : decode cX2_setItem 20 = .ok (.iconst 1, 1) := by decide +kernel
theorem dX2_setItem_21 : decode cX2_setItem 21 = .ok (.ireturn, 1) := by decide +kernel
theorem dX2_addUsed_0 : decode cX2_addUsed 0 = .ok (.aload_n 0, 1) := by decide +kernel
theorem dX2_addUsed_1 : decode cX2_addUsed 1 = .ok (.iload_n 1, 1) := by decide +kernel
theorem dX2_addUsed_2 : decode cX2_addUsed 2 = .ok (.invokevirtual 54, 3) := by decide +kernel
theorem dX2_addUsed_5 : decode cX2_addUsed 5 = .ok (.ifCond .eq 11, 3) := by decide +kernel
theorem dX2_addUsed_8 : decode cX2_addUsed 8 = .ok (.aload_n 0, 1) := by decide +kernel
theorem dX2_addUsed_9 : decode cX2_addUsed 9 = .ok (.iload_n 2, 1) := by decide +kernel
theorem dX2_addUsed_10 : decode cX2_addUsed 10 = .ok (.invokevirtual 54, 3) := by decide +kernel
theorem dX2_addUsed_13 : decode cX2_addUsed 13 = .ok (.ifCond .ne 5, 3) := by decide +kernel
theorem dX2_addUsed_16 : decode cX2_addUsed 16 = .ok (.iconst (-1), 1) := by decide +kernel
theorem dX2_addUsed_17 : decode cX2_addUsed 17 = .ok (.ireturn, 1) := by decide +kernel
theorem dX2_addUsed_18 : decode cX2_addUsed 18 = .ok (.aload_n 0, 1) := by decide +kernel
theorem dX2_addUsed_19 : decode cX2_addUsed 19 = .ok (.getfield 20, 3) := by decide +kernel
theorem dX2_addUsed_22 : decode cX2_addUsed 22 = .ok (.iload_n 1, 1) := by decide +kernel
theorem dX2_addUsed_23 : decode cX2_addUsed 23 = .ok (.iaload, 1) := by decide +kernel
theorem dX2_addUsed_24 : decode cX2_addUsed 24 = .ok (.bipush 6, 2) := by decide +kernel
theorem dX2_addUsed_26 : decode cX2_addUsed 26 = .ok (.if_icmp .lt 6, 3) := by decide +kernel
theorem dX2_addUsed_29 : decode cX2_addUsed 29 = .ok (.bipush (-2), 2) := by decide +kernel
theorem dX2_addUsed_31 : decode cX2_addUsed 31 = .ok (.ireturn, 1) := by decide +kernel
theorem dX2_addUsed_32 : decode cX2_addUsed 32 = .ok (.aload_n 0, 1) := by decide +kernel
theorem dX2_addUsed_33 : decode cX2_addUsed 33 = .ok (.getfield 23, 3) := by decide +kernel
theorem dX2_addUsed_36 : decode cX2_addUsed 36 = .ok (.iload_n 1, 1) := by decide +kernel
theorem dX2_addUsed_37 : decode cX2_addUsed 37 = .ok (.aaload, 1) := by decide +kernel
theorem dX2_addUsed_38 : decode cX2_addUsed 38 = .ok (.aload_n 0, 1) := by decide +kernel
theorem dX2_addUsed_39 : decode cX2_addUsed 39 = .ok (.getfield 20, 3) := by decide +kernel
theorem dX2_addUsed_42 : decode cX2_addUsed 42 = .ok (.iload_n 1, 1) := by decide +kernel
theorem dX2_addUsed_43 : decode cX2_addUsed 43 = .ok (.iaload, 1) := by decide +kernel
theorem dX2_addUsed_44 : decode cX2_addUsed 44 = .ok (.iload_n 2, 1) := by decide +kernel
theorem dX2_addUsed_45 : decode cX2_addUsed 45 = .ok (.iastore, 1) := by decide +kernel
theorem dX2_addUsed_46 : decode cX2_addUsed 46 = .ok (.aload_n 0, 1) := by decide +kernel
theorem dX2_addUsed_47 : decode cX2_addUsed 47 = .ok (.getfield 20, 3) := by decide +kernel
theorem dX2_addUsed_50 : decode cX2_addUsed 50 = .ok (.iload_n 1, 1) := by decide +kernel
theorem dX2_addUsed_51 : decode cX2_addUsed 51 = .ok (.dup2, 1) := by decide +kernel
theorem dX2_addUsed_52 : decode cX2_addUsed 52 = .ok (.iaload, 1) := by decide +kernel
theorem dX2_addUsed_53 : decode cX2_addUsed 53 = .ok (.iconst 1, 1) := by decide +kernel
theorem dX2_addUsed_54 : decode cX2_addUsed 54 = .ok (.iadd, 1) := by decide +kernel
theorem dX2_addUsed_55 : decode cX2_addUsed 55 = .ok (.iastore, 1) := by decide +kernel
theorem dX2_addUsed_56 : decode cX2_addUsed 56 = .ok (.aload_n 0, 1) := by decide +kernel
theorem dX2_addUsed_57 : decode cX2_addUsed 57 = .ok (.getfield 20, 3) := by decide +kernel
theorem dX2_addUsed_60 : decode cX2_addUsed 60 = .ok (.iload_n 1, 1) := by decide +kernel
theorem dX2_addUsed_61 : decode cX2_addUsed 61 = .ok (.iaload, 1) := by decide +kernel
theorem dX2_addUsed_62 : decode cX2_addUsed 62 = .ok (.ireturn, 1) := by decide +kernel
theorem dX2_addDeed_0 : decode cX2_addDeed 0 = .ok (.aload_n 0, 1) := by decide +kernel
theorem dX2_addDeed_1 : decode cX2_addDeed 1 = .ok (.iload_n 1, 1) := by decide +kernel
theorem dX2_addDeed_2 : decode cX2_addDeed 2 = .ok (.invokevirtual 54, 3) := by decide +kernel
theorem dX2_addDeed_5 : decode cX2_addDeed 5 = .ok (.ifCond .eq 12, 3) := by decide +kernel
theorem dX2_addDeed_8 : decode cX2_addDeed 8 = .ok (.aload_n 0, 1) := by decide +kernel
theorem dX2_addDeed_9 : decode cX2_addDeed 9 = .ok (.iload_n 2, 1) := by decide +kernel
theorem dX2_addDeed_10 : decode cX2_addDeed 10 = .ok (.iload_n 3, 1) := by decide +kernel
theorem dX2_addDeed_11 : decode cX2_addDeed 11 = .ok (.invokevirtual 65, 3) := by decide +kernel
theorem dX2_addDeed_14 : decode cX2_addDeed 14 = .ok (.ifCond .ne 5, 3) := by decide +kernel
theorem dX2_addDeed_17 : decode cX2_addDeed 17 = .ok (.iconst (-1), 1) := by decide +kernel
theorem dX2_addDeed_18 : decode cX2_addDeed 18 = .ok (.ireturn, 1) := by decide +kernel
theorem dX2_addDeed_19 : decode cX2_addDeed 19 = .ok (.aload_n 0, 1) := by decide +kernel
theorem dX2_addDeed_20 : decode cX2_addDeed 20 = .ok (.getfield 26, 3) := by decide +kernel
theorem dX2_addDeed_23 : decode cX2_addDeed 23 = .ok (.iload_n 1, 1) := by decide +kernel
theorem dX2_addDeed_24 : decode cX2_addDeed 24 = .ok (.iaload, 1) := by decide +kernel
theorem dX2_addDeed_25 : decode cX2_addDeed 25 = .ok (.istore 4, 2) := by decide +kernel
theorem dX2_addDeed_27 : decode cX2_addDeed 27 = .ok (.iload 4, 2) := by decide +kernel
theorem dX2_addDeed_29 : decode cX2_addDeed 29 = .ok (.bipush 6, 2) := by decide +kernel
theorem dX2_addDeed_31 : decode cX2_addDeed 31 = .ok (.if_icmp .lt 6, 3) := by decide +kernel
theorem dX2_addDeed_34 : decode cX2_addDeed 34 = .ok (.bipush (-2), 2) := by decide +kernel
theorem dX2_addDeed_36 : decode cX2_addDeed 36 = .ok (.ireturn, 1) := by decide +kernel
theorem dX2_addDeed_37 : decode cX2_addDeed 37 = .ok (.aload_n 0, 1) := by decide +kernel
theorem dX2_addDeed_38 : decode cX2_addDeed 38 = .ok (.getfield 29, 3) := by decide +kernel
theorem dX2_addDeed_41 : decode cX2_addDeed 41 = .ok (.iload_n 1, 1) := by decide +kernel
theorem dX2_addDeed_42 : decode cX2_addDeed 42 = .ok (.aaload, 1) := by decide +kernel
theorem dX2_addDeed_43 : decode cX2_addDeed 43 = .ok (.iload 4, 2) := by decide +kernel
theorem dX2_addDeed_45 : decode cX2_addDeed 45 = .ok (.iload_n 2, 1) := by decide +kernel
theorem dX2_addDeed_46 : decode cX2_addDeed 46 = .ok (.iastore, 1) := by decide +kernel
theorem dX2_addDeed_47 : decode cX2_addDeed 47 = .ok (.aload_n 0, 1) := by decide +kernel
theorem dX2_addDeed_48 : decode cX2_addDeed 48 = .ok (.getfield 32, 3) := by decide +kernel
theorem dX2_addDeed_51 : decode cX2_addDeed 51 = .ok (.iload_n 1, 1) := by decide +kernel
theorem dX2_addDeed_52 : decode cX2_addDeed 52 = .ok (.aaload, 1) := by decide +kernel
theorem dX2_addDeed_53 : decode cX2_addDeed 53 = .ok (.iload 4, 2) := by decide +kernel
theorem dX2_addDeed_55 : decode cX2_addDeed 55 = .ok (.iload_n 3, 1) := by decide +kernel
theorem dX2_addDeed_56 : decode cX2_addDeed 56 = .ok (.iastore, 1) := by decide +kernel
theorem dX2_addDeed_57 : decode cX2_addDeed 57 = .ok (.aload_n 0, 1) := by decide +kernel
theorem dX2_addDeed_58 : decode cX2_addDeed 58 = .ok (.getfield 26, 3) := by decide +kernel
theorem dX2_addDeed_61 : decode cX2_addDeed 61 = .ok (.iload_n 1, 1) := by decide +kernel
theorem dX2_addDeed_62 : decode cX2_addDeed 62 = .ok (.iload 4, 2) := by decide +kernel
theorem dX2_addDeed_64 : decode cX2_addDeed 64 = .ok (.iconst 1, 1) := by decide +kernel
theorem dX2_addDeed_65 : decode cX2_addDeed 65 = .ok (.iadd, 1) := by decide +kernel
theorem dX2_addDeed_66 : decode cX2_addDeed 66 = .ok (.iastore, 1) := by decide +kernel
theorem dX2_addDeed_67 : decode cX2_addDeed 67 = .ok (.iload 4, 2) := by decide +kernel
theorem dX2_addDeed_69 : decode cX2_addDeed 69 = .ok (.iconst 1, 1) := by decide +kernel
theorem dX2_addDeed_70 : decode cX2_addDeed 70 = .ok (.iadd, 1) := by decide +kernel
theorem dX2_addDeed_71 : decode cX2_addDeed 71 = .ok (.ireturn, 1) := by decide +kernel
theorem dX2_isDeed_0 : decode cX2_isDeed 0 = .ok (.iload_n 1, 1) := by decide +kernel
theorem dX2_isDeed_1 : decode cX2_isDeed 1 = .ok (.lookupswitch 39 #[(0, 27), (1, 33)], 27) := by decide +kernel
theorem dX2_isDeed_28 : decode cX2_isDeed 28 = .ok (.aload_n 0, 1) := by decide +kernel
theorem dX2_isDeed_29 : decode cX2_isDeed 29 = .ok (.iload_n 2, 1) := by decide +kernel
theorem dX2_isDeed_30 : decode cX2_isDeed 30 = .ok (.invokevirtual 68, 3) := by decide +kernel
theorem dX2_isDeed_33 : decode cX2_isDeed 33 = .ok (.ireturn, 1) := by decide +kernel
theorem dX2_isDeed_34 : decode cX2_isDeed 34 = .ok (.aload_n 0, 1) := by decide +kernel
theorem dX2_isDeed_35 : decode cX2_isDeed 35 = .ok (.iload_n 2, 1) := by decide +kernel
theorem dX2_isDeed_36 : decode cX2_isDeed 36 = .ok (.invokevirtual 54, 3) := by decide +kernel
theorem dX2_isDeed_39 : decode cX2_isDeed 39 = .ok (.ireturn, 1) := by decide +kernel
theorem dX2_isDeed_40 : decode cX2_isDeed 40 = .ok (.iload_n 1, 1) := by decide +kernel
theorem dX2_isDeed_41 : decode cX2_isDeed 41 = .ok (.iconst 2, 1) := by decide +kernel
theorem dX2_isDeed_42 : decode cX2_isDeed 42 = .ok (.if_icmp .ne 7, 3) := by decide +kernel
theorem dX2_isDeed_45 : decode cX2_isDeed 45 = .ok (.iconst 1, 1) := by decide +kernel
theorem dX2_isDeed_46 : decode cX2_isDeed 46 = .ok (.goto 4, 3) := by decide +kernel
theorem dX2_isDeed_49 : decode cX2_isDeed 49 = .ok (.iconst 0, 1) := by decide +kernel
theorem dX2_isDeed_50 : decode cX2_isDeed 50 = .ok (.ireturn, 1) := by decide +kernel
theorem dX2_addConstant_0 : decode cX2_addConstant 0 = .ok (.aload_n 0, 1) := by decide +kernel
theorem dX2_addConstant_1 : decode cX2_addConstant 1 = .ok (.iload_n 1, 1) := by decide +kernel
theorem dX2_addConstant_2 : decode cX2_addConstant 2 = .ok (.invokevirtual 54, 3) := by decide +kernel
theorem dX2_addConstant_5 : decode cX2_addConstant 5 = .ok (.ifCond .eq 16, 3) := by decide +kernel
theorem dX2_addConstant_8 : decode cX2_addConstant 8 = .ok (.aload_n 0, 1) := by decide +kernel
theorem dX2_addConstant_9 : decode cX2_addConstant 9 = .ok (.iload_n 2, 1) := by decide +kernel
theorem dX2_addConstant_10 : decode cX2_addConstant 10 = .ok (.iload_n 3, 1) := by decide +kernel
theorem dX2_addConstant_11 : decode cX2_addConstant 11 = .ok (.iload 4, 2) := by decide +kernel
theorem dX2_addConstant_13 : decode cX2_addConstant 13 = .ok (.iload 5, 2) := by decide +kernel
theorem dX2_addConstant_15 : decode cX2_addConstant 15 = .ok (.invokevirtual 71, 3) := by decide +kernel
theorem dX2_addConstant_18 : decode cX2_addConstant 18 = .ok (.ifCond .ne 5, 3) := by decide +kernel
theorem dX2_addConstant_21 : decode cX2_addConstant 21 = .ok (.iconst (-1), 1) := by decide +kernel
theorem dX2_addConstant_22 : decode cX2_addConstant 22 = .ok (.ireturn, 1) := by decide +kernel
theorem dX2_addConstant_23 : decode cX2_addConstant 23 = .ok (.aload_n 0, 1) := by decide +kernel
theorem dX2_addConstant_24 : decode cX2_addConstant 24 = .ok (.getfield 58, 3) := by decide +kernel
theorem dX2_addConstant_27 : decode cX2_addConstant 27 = .ok (.bipush 40, 2) := by decide +kernel
theorem dX2_addConstant_29 : decode cX2_addConstant 29 = .ok (.if_icmp .lt 6, 3) := by decide +kernel
theorem dX2_addConstant_32 : decode cX2_addConstant 32 = .ok (.bipush (-2), 2) := by decide +kernel
theorem dX2_addConstant_34 : decode cX2_addConstant 34 = .ok (.ireturn, 1) := by decide +kernel
theorem dX2_addConstant_35 : decode cX2_addConstant 35 = .ok (.aload_n 0, 1) := by decide +kernel
theorem dX2_addConstant_36 : decode cX2_addConstant 36 = .ok (.getfield 35, 3) := by decide +kernel
theorem dX2_addConstant_39 : decode cX2_addConstant 39 = .ok (.aload_n 0, 1) := by decide +kernel
theorem dX2_addConstant_40 : decode cX2_addConstant 40 = .ok (.getfield 58, 3) := by decide +kernel
theorem dX2_addConstant_43 : decode cX2_addConstant 43 = .ok (.iload_n 1, 1) := by decide +kernel
theorem dX2_addConstant_44 : decode cX2_addConstant 44 = .ok (.iastore, 1) := by decide +kernel
theorem dX2_addConstant_45 : decode cX2_addConstant 45 = .ok (.aload_n 0, 1) := by decide +kernel
theorem dX2_addConstant_46 : decode cX2_addConstant 46 = .ok (.getfield 38, 3) := by decide +kernel
theorem dX2_addConstant_49 : decode cX2_addConstant 49 = .ok (.aload_n 0, 1) := by decide +kernel
theorem dX2_addConstant_50 : decode cX2_addConstant 50 = .ok (.getfield 58, 3) := by decide +kernel
theorem dX2_addConstant_53 : decode cX2_addConstant 53 = .ok (.iload_n 2, 1) := by decide +kernel
theorem dX2_addConstant_54 : decode cX2_addConstant 54 = .ok (.iastore, 1) := by decide +kernel
theorem dX2_addConstant_55 : decode cX2_addConstant 55 = .ok (.aload_n 0, 1) := by decide +kernel
theorem dX2_addConstant_56 : decode cX2_addConstant 56 = .ok (.getfield 41, 3) := by decide +kernel
theorem dX2_addConstant_59 : decode cX2_addConstant 59 = .ok (.aload_n 0, 1) := by decide +kernel
theorem dX2_addConstant_60 : decode cX2_addConstant 60 = .ok (.getfield 58, 3) := by decide +kernel
theorem dX2_addConstant_63 : decode cX2_addConstant 63 = .ok (.iload_n 3, 1) := by decide +kernel
theorem dX2_addConstant_64 : decode cX2_addConstant 64 = .ok (.iastore, 1) := by decide +kernel
theorem dX2_addConstant_65 : decode cX2_addConstant 65 = .ok (.aload_n 0, 1) := by decide +kernel
theorem dX2_addConstant_66 : decode cX2_addConstant 66 = .ok (.getfield 44, 3) := by decide +kernel
theorem dX2_addConstant_69 : decode cX2_addConstant 69 = .ok (.aload_n 0, 1) := by decide +kernel
theorem dX2_addConstant_70 : decode cX2_addConstant 70 = .ok (.getfield 58, 3) := by decide +kernel
theorem dX2_addConstant_73 : decode cX2_addConstant 73 = .ok (.iload 4, 2) := by decide +kernel
theorem dX2_addConstant_75 : decode cX2_addConstant 75 = .ok (.iastore, 1) := by decide +kernel
theorem dX2_addConstant_76 : decode cX2_addConstant 76 = .ok (.aload_n 0, 1) := by decide +kernel
theorem dX2_addConstant_77 : decode cX2_addConstant 77 = .ok (.getfield 47, 3) := by decide +kernel
theorem dX2_addConstant_80 : decode cX2_addConstant 80 = .ok (.aload_n 0, 1) := by decide +kernel
theorem dX2_addConstant_81 : decode cX2_addConstant 81 = .ok (.getfield 58, 3) := by decide +kernel
theorem dX2_addConstant_84 : decode cX2_addConstant 84 = .ok (.iload 5, 2) := by decide +kernel
theorem dX2_addConstant_86 : decode cX2_addConstant 86 = .ok (.iastore, 1) := by decide +kernel
theorem dX2_addConstant_87 : decode cX2_addConstant 87 = .ok (.aload_n 0, 1) := by decide +kernel
theorem dX2_addConstant_88 : decode cX2_addConstant 88 = .ok (.dup, 1) := by decide +kernel
theorem dX2_addConstant_89 : decode cX2_addConstant 89 = .ok (.getfield 58, 3) := by decide +kernel
theorem dX2_addConstant_92 : decode cX2_addConstant 92 = .ok (.dup_x1, 1) := by decide +kernel
theorem dX2_addConstant_93 : decode cX2_addConstant 93 = .ok (.iconst 1, 1) := by decide +kernel
theorem dX2_addConstant_94 : decode cX2_addConstant 94 = .ok (.iadd, 1) := by decide +kernel
theorem dX2_addConstant_95 : decode cX2_addConstant 95 = .ok (.putfield 58, 3) := by decide +kernel
theorem dX2_addConstant_98 : decode cX2_addConstant 98 = .ok (.ireturn, 1) := by decide +kernel
theorem dX2_isFormula_0 : decode cX2_isFormula 0 = .ok (.iload_n 1, 1) := by decide +kernel
theorem dX2_isFormula_1 : decode cX2_isFormula 1 = .ok (.ifCond .lt 11, 3) := by decide +kernel
theorem dX2_isFormula_4 : decode cX2_isFormula 4 = .ok (.iload_n 1, 1) := by decide +kernel
theorem dX2_isFormula_5 : decode cX2_isFormula 5 = .ok (.getstatic 75, 3) := by decide +kernel
theorem dX2_isFormula_8 : decode cX2_isFormula 8 = .ok (.arraylength, 1) := by decide +kernel
theorem dX2_isFormula_9 : decode cX2_isFormula 9 = .ok (.if_icmp .lt 5, 3) := by decide +kernel
theorem dX2_isFormula_12 : decode cX2_isFormula 12 = .ok (.iconst 0, 1) := by decide +kernel
theorem dX2_isFormula_13 : decode cX2_isFormula 13 = .ok (.ireturn, 1) := by decide +kernel
theorem dX2_isFormula_14 : decode cX2_isFormula 14 = .ok (.iload_n 1, 1) := by decide +kernel
theorem dX2_isFormula_15 : decode cX2_isFormula 15 = .ok (.bipush 8, 2) := by decide +kernel
theorem dX2_isFormula_17 : decode cX2_isFormula 17 = .ok (.if_icmp .eq 15, 3) := by decide +kernel
theorem dX2_isFormula_20 : decode cX2_isFormula 20 = .ok (.iload_n 1, 1) := by decide +kernel
theorem dX2_isFormula_21 : decode cX2_isFormula 21 = .ok (.bipush 9, 2) := by decide +kernel
theorem dX2_isFormula_23 : decode cX2_isFormula 23 = .ok (.if_icmp .eq 9, 3) := by decide +kernel
theorem dX2_isFormula_26 : decode cX2_isFormula 26 = .ok (.iload_n 1, 1) := by decide +kernel
theorem dX2_isFormula_27 : decode cX2_isFormula 27 = .ok (.bipush 10, 2) := by decide +kernel
theorem dX2_isFormula_29 : decode cX2_isFormula 29 = .ok (.if_icmp .ne 9, 3) := by decide +kernel
theorem dX2_isFormula_32 : decode cX2_isFormula 32 = .ok (.aload_n 0, 1) := by decide +kernel
theorem dX2_isFormula_33 : decode cX2_isFormula 33 = .ok (.iload_n 2, 1) := by decide +kernel
theorem dX2_isFormula_34 : decode cX2_isFormula 34 = .ok (.invokevirtual 54, 3) := by decide +kernel
theorem dX2_isFormula_37 : decode cX2_isFormula 37 = .ok (.ireturn, 1) := by decide +kernel
theorem dX2_isFormula_38 : decode cX2_isFormula 38 = .ok (.getstatic 75, 3) := by decide +kernel
theorem dX2_isFormula_41 : decode cX2_isFormula 41 = .ok (.iload_n 1, 1) := by decide +kernel
theorem dX2_isFormula_42 : decode cX2_isFormula 42 = .ok (.iaload, 1) := by decide +kernel
theorem dX2_isFormula_43 : decode cX2_isFormula 43 = .ok (.istore 5, 2) := by decide +kernel
theorem dX2_isFormula_45 : decode cX2_isFormula 45 = .ok (.iload 5, 2) := by decide +kernel
theorem dX2_isFormula_47 : decode cX2_isFormula 47 = .ok (.iconst 1, 1) := by decide +kernel
theorem dX2_isFormula_48 : decode cX2_isFormula 48 = .ok (.if_icmp .lt 11, 3) := by decide +kernel
theorem dX2_isFormula_51 : decode cX2_isFormula 51 = .ok (.aload_n 0, 1) := by decide +kernel
theorem dX2_isFormula_52 : decode cX2_isFormula 52 = .ok (.iload_n 2, 1) := by decide +kernel
theorem dX2_isFormula_53 : decode cX2_isFormula 53 = .ok (.invokevirtual 68, 3) := by decide +kernel
theorem dX2_isFormula_56 : decode cX2_isFormula 56 = .ok (.ifCond .eq 36, 3) := by decide +kernel
theorem dX2_isFormula_59 : decode cX2_isFormula 59 = .ok (.iload 5, 2) := by decide +kernel
theorem dX2_isFormula_61 : decode cX2_isFormula 61 = .ok (.iconst 2, 1) := by decide +kernel
theorem dX2_isFormula_62 : decode cX2_isFormula 62 = .ok (.if_icmp .lt 11, 3) := by decide +kernel
theorem dX2_isFormula_65 : decode cX2_isFormula 65 = .ok (.aload_n 0, 1) := by decide +kernel
theorem dX2_isFormula_66 : decode cX2_isFormula 66 = .ok (.iload_n 3, 1) := by decide +kernel
theorem dX2_isFormula_67 : decode cX2_isFormula 67 = .ok (.invokevirtual 68, 3) := by decide +kernel
theorem dX2_isFormula_70 : decode cX2_isFormula 70 = .ok (.ifCond .eq 22, 3) := by decide +kernel
theorem dX2_isFormula_73 : decode cX2_isFormula 73 = .ok (.iload 5, 2) := by decide +kernel
theorem dX2_isFormula_75 : decode cX2_isFormula 75 = .ok (.iconst 3, 1) := by decide +kernel
theorem dX2_isFormula_76 : decode cX2_isFormula 76 = .ok (.if_icmp .lt 12, 3) := by decide +kernel
theorem dX2_isFormula_79 : decode cX2_isFormula 79 = .ok (.aload_n 0, 1) := by decide +kernel
theorem dX2_isFormula_80 : decode cX2_isFormula 80 = .ok (.iload 4, 2) := by decide +kernel
theorem dX2_isFormula_82 : decode cX2_isFormula 82 = .ok (.invokevirtual 68, 3) := by decide +kernel
theorem dX2_isFormula_85 : decode cX2_isFormula 85 = .ok (.ifCond .eq 7, 3) := by decide +kernel
theorem dX2_isFormula_88 : decode cX2_isFormula 88 = .ok (.iconst 1, 1) := by decide +kernel
theorem dX2_isFormula_89 : decode cX2_isFormula 89 = .ok (.goto 4, 3) := by decide +kernel
theorem dX2_isFormula_92 : decode cX2_isFormula 92 = .ok (.iconst 0, 1) := by decide +kernel
theorem dX2_isFormula_93 : decode cX2_isFormula 93 = .ok (.ireturn, 1) := by decide +kernel
theorem dX2_mayBeConstant_0 : decode cX2_mayBeConstant 0 = .ok (.iload_n 1, 1) := by decide +kernel
theorem dX2_mayBeConstant_1 : decode cX2_mayBeConstant 1 = .ok (.ifCond .lt 13, 3) := by decide +kernel
theorem dX2_mayBeConstant_4 : decode cX2_mayBeConstant 4 = .ok (.iload_n 1, 1) := by decide +kernel
theorem dX2_mayBeConstant_5 : decode cX2_mayBeConstant 5 = .ok (.bipush 40, 2) := by decide +kernel
theorem dX2_mayBeConstant_7 : decode cX2_mayBeConstant 7 = .ok (.if_icmp .ge 7, 3) := by decide +kernel
theorem dX2_mayBeConstant_10 : decode cX2_mayBeConstant 10 = .ok (.iconst 1, 1) := by decide +kernel
theorem dX2_mayBeConstant_11 : decode cX2_mayBeConstant 11 = .ok (.goto 4, 3) := by decide +kernel
theorem dX2_mayBeConstant_14 : decode cX2_mayBeConstant 14 = .ok (.iconst 0, 1) := by decide +kernel
theorem dX2_mayBeConstant_15 : decode cX2_mayBeConstant 15 = .ok (.ireturn, 1) := by decide +kernel
theorem dX2_countConstants_0 : decode cX2_countConstants 0 = .ok (.iconst 0, 1) := by decide +kernel
theorem dX2_countConstants_1 : decode cX2_countConstants 1 = .ok (.istore_n 2, 1) := by decide +kernel
theorem dX2_countConstants_2 : decode cX2_countConstants 2 = .ok (.iconst 0, 1) := by decide +kernel
theorem dX2_countConstants_3 : decode cX2_countConstants 3 = .ok (.istore_n 3, 1) := by decide +kernel
theorem dX2_countConstants_4 : decode cX2_countConstants 4 = .ok (.iload_n 3, 1) := by decide +kernel
theorem dX2_countConstants_5 : decode cX2_countConstants 5 = .ok (.aload_n 0, 1) := by decide +kernel
theorem dX2_countConstants_6 : decode cX2_countConstants 6 = .ok (.getfield 58, 3) := by decide +kernel
theorem dX2_countConstants_9 : decode cX2_countConstants 9 = .ok (.if_icmp .ge 22, 3) := by decide +kernel
theorem dX2_countConstants_12 : decode cX2_countConstants 12 = .ok (.aload_n 0, 1) := by decide +kernel
theorem dX2_countConstants_13 : decode cX2_countConstants 13 = .ok (.getfield 35, 3) := by decide +kernel
theorem dX2_countConstants_16 : decode cX2_countConstants 16 = .ok (.iload_n 3, 1) := by decide +kernel
theorem dX2_countConstants_17 : decode cX2_countConstants 17 = .ok (.iaload, 1) := by decide +kernel
theorem dX2_countConstants_18 : decode cX2_countConstants 18 = .ok (.iload_n 1, 1) := by decide +kernel
theorem dX2_countConstants_19 : decode cX2_countConstants 19 = .ok (.if_icmp .ne 6, 3) := by decide +kernel
theorem dX2_countConstants_22 : decode cX2_countConstants 22 = .ok (.iinc 2 1, 3) := by decide +kernel
theorem dX2_countConstants_25 : decode cX2_countConstants 25 = .ok (.iinc 3 1, 3) := by decide +kernel
theorem dX2_countConstants_28 : decode cX2_countConstants 28 = .ok (.goto (-24), 3) := by decide +kernel
theorem dX2_countConstants_31 : decode cX2_countConstants 31 = .ok (.iload_n 2, 1) := by decide +kernel
theorem dX2_countConstants_32 : decode cX2_countConstants 32 = .ok (.ireturn, 1) := by decide +kernel
theorem dX3_init_0 : decode cX3_init 0 = .ok (.aload_n 0, 1) := by decide +kernel
theorem dX3_init_1 : decode cX3_init 1 = .ok (.invokespecial 3, 3) := by decide +kernel
theorem dX3_init_4 : decode cX3_init 4 = .ok (.aload_n 0, 1) := by decide +kernel
theorem dX3_init_5 : decode cX3_init 5 = .ok (.sipush 200, 3) := by decide +kernel
theorem dX3_init_8 : decode cX3_init 8 = .ok (.newarray .int, 2) := by decide +kernel
theorem dX3_init_10 : decode cX3_init 10 = .ok (.putfield 9, 3) := by decide +kernel
theorem dX3_init_13 : decode cX3_init 13 = .ok (.aload_n 0, 1) := by decide +kernel
theorem dX3_init_14 : decode cX3_init 14 = .ok (.sipush 200, 3) := by decide +kernel
theorem dX3_init_17 : decode cX3_init 17 = .ok (.newarray .int, 2) := by decide +kernel
theorem dX3_init_19 : decode cX3_init 19 = .ok (.putfield 15, 3) := by decide +kernel
theorem dX3_init_22 : decode cX3_init 22 = .ok (.return_, 1) := by decide +kernel
theorem dX3_clear_0 : decode cX3_clear 0 = .ok (.aload_n 0, 1) := by decide +kernel
theorem dX3_clear_1 : decode cX3_clear 1 = .ok (.iconst 0, 1) := by decide +kernel
theorem dX3_clear_2 : decode cX3_clear 2 = .ok (.putfield 18, 3) := by decide +kernel
theorem dX3_clear_5 : decode cX3_clear 5 = .ok (.return_, 1) := by decide +kernel
theorem dX3_note_0 : decode cX3_note 0 = .ok (.aload_n 0, 1) := by decide +kernel
theorem dX3_note_1 : decode cX3_note 1 = .ok (.getfield 18, 3) := by decide +kernel
theorem dX3_note_4 : decode cX3_note 4 = .ok (.sipush 200, 3) := by decide +kernel
theorem dX3_note_7 : decode cX3_note 7 = .ok (.if_icmp .ge 33, 3) := by decide +kernel
theorem dX3_note_10 : decode cX3_note 10 = .ok (.aload_n 0, 1) := by decide +kernel
theorem dX3_note_11 : decode cX3_note 11 = .ok (.getfield 9, 3) := by decide +kernel
theorem dX3_note_14 : decode cX3_note 14 = .ok (.aload_n 0, 1) := by decide +kernel
theorem dX3_note_15 : decode cX3_note 15 = .ok (.getfield 18, 3) := by decide +kernel
theorem dX3_note_18 : decode cX3_note 18 = .ok (.iload_n 1, 1) := by decide +kernel
theorem dX3_note_19 : decode cX3_note 19 = .ok (.iastore, 1) := by decide +kernel
theorem dX3_note_20 : decode cX3_note 20 = .ok (.aload_n 0, 1) := by decide +kernel
theorem dX3_note_21 : decode cX3_note 21 = .ok (.getfield 15, 3) := by decide +kernel
theorem dX3_note_24 : decode cX3_note 24 = .ok (.aload_n 0, 1) := by decide +kernel
theorem dX3_note_25 : decode cX3_note 25 = .ok (.getfield 18, 3) := by decide +kernel
theorem dX3_note_28 : decode cX3_note 28 = .ok (.iload_n 2, 1) := by decide +kernel
theorem dX3_note_29 : decode cX3_note 29 = .ok (.iastore, 1) := by decide +kernel
theorem dX3_note_30 : decode cX3_note 30 = .ok (.aload_n 0, 1) := by decide +kernel
theorem dX3_note_31 : decode cX3_note 31 = .ok (.dup, 1) := by decide +kernel
theorem dX3_note_32 : decode cX3_note 32 = .ok (.getfield 18, 3) := by decide +kernel
theorem dX3_note_35 : decode cX3_note 35 = .ok (.iconst 1, 1) := by decide +kernel
theorem dX3_note_36 : decode cX3_note 36 = .ok (.iadd, 1) := by decide +kernel
theorem dX3_note_37 : decode cX3_note 37 = .ok (.putfield 18, 3) := by decide +kernel
theorem dX3_note_40 : decode cX3_note 40 = .ok (.return_, 1) := by decide +kernel
theorem dX4_init_0 : decode cX4_init 0 = .ok (.aload_n 0, 1) := by decide +kernel
theorem dX4_init_1 : decode cX4_init 1 = .ok (.invokespecial 3, 3) := by decide +kernel
theorem dX4_init_4 : decode cX4_init 4 = .ok (.aload_n 0, 1) := by decide +kernel
theorem dX4_init_5 : decode cX4_init 5 = .ok (.new 9, 3) := by decide +kernel
theorem dX4_init_8 : decode cX4_init 8 = .ok (.dup, 1) := by decide +kernel
theorem dX4_init_9 : decode cX4_init 9 = .ok (.invokespecial 11, 3) := by decide +kernel
theorem dX4_init_12 : decode cX4_init 12 = .ok (.putfield 12, 3) := by decide +kernel
theorem dX4_init_15 : decode cX4_init 15 = .ok (.aload_n 0, 1) := by decide +kernel
theorem dX4_init_16 : decode cX4_init 16 = .ok (.new 16, 3) := by decide +kernel
theorem dX4_init_19 : decode cX4_init 19 = .ok (.dup, 1) := by decide +kernel
theorem dX4_init_20 : decode cX4_init 20 = .ok (.invokespecial 18, 3) := by decide +kernel
theorem dX4_init_23 : decode cX4_init 23 = .ok (.putfield 19, 3) := by decide +kernel
theorem dX4_init_26 : decode cX4_init 26 = .ok (.aload_n 0, 1) := by decide +kernel
theorem dX4_init_27 : decode cX4_init 27 = .ok (.iconst 3, 1) := by decide +kernel
theorem dX4_init_28 : decode cX4_init 28 = .ok (.anewarray 23, 3) := by decide +kernel
theorem dX4_init_31 : decode cX4_init 31 = .ok (.putfield 25, 3) := by decide +kernel
theorem dX4_init_34 : decode cX4_init 34 = .ok (.iconst 0, 1) := by decide +kernel
theorem dX4_init_35 : decode cX4_init 35 = .ok (.istore_n 1, 1) := by decide +kernel
theorem dX4_init_36 : decode cX4_init 36 = .ok (.iload_n 1, 1) := by decide +kernel
theorem dX4_init_37 : decode cX4_init 37 = .ok (.iconst 3, 1) := by decide +kernel
theorem dX4_init_38 : decode cX4_init 38 = .ok (.if_icmp .ge 30, 3) := by decide +kernel
theorem dX4_init_41 : decode cX4_init 41 = .ok (.aload_n 0, 1) := by decide +kernel
theorem dX4_init_42 : decode cX4_init 42 = .ok (.getfield 25, 3) := by decide +kernel
theorem dX4_init_45 : decode cX4_init 45 = .ok (.iload_n 1, 1) := by decide +kernel
theorem dX4_init_46 : decode cX4_init 46 = .ok (.new 23, 3) := by decide +kernel
theorem dX4_init_49 : decode cX4_init 49 = .ok (.dup, 1) := by decide +kernel
theorem dX4_init_50 : decode cX4_init 50 = .ok (.aload_n 0, 1) := by decide +kernel
theorem dX4_init_51 : decode cX4_init 51 = .ok (.getfield 12, 3) := by decide +kernel
theorem dX4_init_54 : decode cX4_init 54 = .ok (.aload_n 0, 1) := by decide +kernel
theorem dX4_init_55 : decode cX4_init 55 = .ok (.getfield 19, 3) := by decide +kernel
theorem dX4_init_58 : decode cX4_init 58 = .ok (.invokespecial 29, 3) := by decide +kernel
theorem dX4_init_61 : decode cX4_init 61 = .ok (.aastore, 1) := by decide +kernel
theorem dX4_init_62 : decode cX4_init 62 = .ok (.iinc 1 1, 3) := by decide +kernel
theorem dX4_init_65 : decode cX4_init 65 = .ok (.goto (-29), 3) := by decide +kernel
theorem dX4_init_68 : decode cX4_init 68 = .ok (.aload_n 0, 1) := by decide +kernel
theorem dX4_init_69 : decode cX4_init 69 = .ok (.new 32, 3) := by decide +kernel
theorem dX4_init_72 : decode cX4_init 72 = .ok (.dup, 1) := by decide +kernel
theorem dX4_init_73 : decode cX4_init 73 = .ok (.invokespecial 34, 3) := by decide +kernel
theorem dX4_init_76 : decode cX4_init 76 = .ok (.putfield 35, 3) := by decide +kernel
theorem dX4_init_79 : decode cX4_init 79 = .ok (.aload_n 0, 1) := by decide +kernel
theorem dX4_init_80 : decode cX4_init 80 = .ok (.new 23, 3) := by decide +kernel
theorem dX4_init_83 : decode cX4_init 83 = .ok (.dup, 1) := by decide +kernel
theorem dX4_init_84 : decode cX4_init 84 = .ok (.aload_n 0, 1) := by decide +kernel
theorem dX4_init_85 : decode cX4_init 85 = .ok (.getfield 12, 3) := by decide +kernel
theorem dX4_init_88 : decode cX4_init 88 = .ok (.new 16, 3) := by decide +kernel
theorem dX4_init_91 : decode cX4_init 91 = .ok (.dup, 1) := by decide +kernel
theorem dX4_init_92 : decode cX4_init 92 = .ok (.invokespecial 18, 3) := by decide +kernel
theorem dX4_init_95 : decode cX4_init 95 = .ok (.invokespecial 29, 3) := by decide +kernel
theorem dX4_init_98 : decode cX4_init 98 = .ok (.putfield 39, 3) := by decide +kernel
theorem dX4_init_101 : decode cX4_init 101 = .ok (.aload_n 0, 1) := by decide +kernel
theorem dX4_init_102 : decode cX4_init 102 = .ok (.bipush 40, 2) := by decide +kernel
theorem dX4_init_104 : decode cX4_init 104 = .ok (.newarray .int, 2) := by decide +kernel
theorem dX4_init_106 : decode cX4_init 106 = .ok (.putfield 43, 3) := by decide +kernel
theorem dX4_init_109 : decode cX4_init 109 = .ok (.aload_n 0, 1) := by decide +kernel
theorem dX4_init_110 : decode cX4_init 110 = .ok (.bipush 40, 2) := by decide +kernel
theorem dX4_init_112 : decode cX4_init 112 = .ok (.newarray .int, 2) := by decide +kernel
theorem dX4_init_114 : decode cX4_init 114 = .ok (.putfield 47, 3) := by decide +kernel
theorem dX4_init_117 : decode cX4_init 117 = .ok (.aload_n 0, 1) := by decide +kernel
theorem dX4_init_118 : decode cX4_init 118 = .ok (.bipush 40, 2) := by decide +kernel
theorem dX4_init_120 : decode cX4_init 120 = .ok (.newarray .int, 2) := by decide +kernel
theorem dX4_init_122 : decode cX4_init 122 = .ok (.putfield 50, 3) := by decide +kernel
theorem dX4_init_125 : decode cX4_init 125 = .ok (.return_, 1) := by decide +kernel
theorem dX4_module_0 : decode cX4_module 0 = .ok (.aload_n 0, 1) := by decide +kernel
theorem dX4_module_1 : decode cX4_module 1 = .ok (.getfield 12, 3) := by decide +kernel
theorem dX4_module_4 : decode cX4_module 4 = .ok (.iload_n 1, 1) := by decide +kernel
theorem dX4_module_5 : decode cX4_module 5 = .ok (.invokevirtual 53, 3) := by decide +kernel
theorem dX4_module_8 : decode cX4_module 8 = .ok (.ireturn, 1) := by decide +kernel
theorem dX4_item_0 : decode cX4_item 0 = .ok (.aload_n 0, 1) := by decide +kernel
theorem dX4_item_1 : decode cX4_item 1 = .ok (.getfield 12, 3) := by decide +kernel
theorem dX4_item_4 : decode cX4_item 4 = .ok (.iload_n 1, 1) := by decide +kernel
theorem dX4_item_5 : decode cX4_item 5 = .ok (.iload_n 2, 1) := by decide +kernel
theorem dX4_item_6 : decode cX4_item 6 = .ok (.iload_n 3, 1) := by decide +kernel
theorem dX4_item_7 : decode cX4_item 7 = .ok (.invokevirtual 57, 3) := by decide +kernel
theorem dX4_item_10 : decode cX4_item 10 = .ok (.ireturn, 1) := by decide +kernel
theorem dX4_uses_0 : decode cX4_uses 0 = .ok (.aload_n 0, 1) := by decide +kernel
theorem dX4_uses_1 : decode cX4_uses 1 = .ok (.getfield 12, 3) := by decide +kernel
theorem dX4_uses_4 : decode cX4_uses 4 = .ok (.iload_n 1, 1) := by decide +kernel
theorem dX4_uses_5 : decode cX4_uses 5 = .ok (.iload_n 2, 1) := by decide +kernel
theorem dX4_uses_6 : decode cX4_uses 6 = .ok (.invokevirtual 61, 3) := by decide +kernel
theorem dX4_uses_9 : decode cX4_uses 9 = .ok (.ireturn, 1) := by decide +kernel
theorem dX4_deed_0 : decode cX4_deed 0 = .ok (.aload_n 0, 1) := by decide +kernel
theorem dX4_deed_1 : decode cX4_deed 1 = .ok (.getfield 12, 3) := by decide +kernel
theorem dX4_deed_4 : decode cX4_deed 4 = .ok (.iload_n 1, 1) := by decide +kernel
theorem dX4_deed_5 : decode cX4_deed 5 = .ok (.iload_n 2, 1) := by decide +kernel
theorem dX4_deed_6 : decode cX4_deed 6 = .ok (.iload_n 3, 1) := by decide +kernel
theorem dX4_deed_7 : decode cX4_deed 7 = .ok (.invokevirtual 65, 3) := by decide +kernel
theorem dX4_deed_10 : decode cX4_deed 10 = .ok (.ireturn, 1) := by decide +kernel
theorem dX4_constant_0 : decode cX4_constant 0 = .ok (.aload_n 0, 1) := by decide +kernel
theorem dX4_constant_1 : decode cX4_constant 1 = .ok (.getfield 12, 3) := by decide +kernel
theorem dX4_constant_4 : decode cX4_constant 4 = .ok (.iload_n 1, 1) := by decide +kernel
theorem dX4_constant_5 : decode cX4_constant 5 = .ok (.iload_n 2, 1) := by decide +kernel
theorem dX4_constant_6 : decode cX4_constant 6 = .ok (.iload_n 3, 1) := by decide +kernel
theorem dX4_constant_7 : decode cX4_constant 7 = .ok (.iload 4, 2) := by decide +kernel
theorem dX4_constant_9 : decode cX4_constant 9 = .ok (.iload 5, 2) := by decide +kernel
theorem dX4_constant_11 : decode cX4_constant 11 = .ok (.invokevirtual 68, 3) := by decide +kernel
theorem dX4_constant_14 : decode cX4_constant 14 = .ok (.ireturn, 1) := by decide +kernel
theorem dX4_need_0 : decode cX4_need 0 = .ok (.aload_n 0, 1) := by decide +kernel
theorem dX4_need_1 : decode cX4_need 1 = .ok (.iload_n 1, 1) := by decide +kernel
theorem dX4_need_2 : decode cX4_need 2 = .ok (.invokevirtual 72, 3) := by decide +kernel
theorem dX4_need_5 : decode cX4_need 5 = .ok (.astore_n 3, 1) := by decide +kernel
theorem dX4_need_6 : decode cX4_need 6 = .ok (.aload_n 3, 1) := by decide +kernel
theorem dX4_need_7 : decode cX4_need 7 = .ok (.ifnull 14, 3) := by decide +kernel
theorem dX4_need_10 : decode cX4_need 10 = .ok (.aload_n 0, 1) := by decide +kernel
theorem dX4_need_11 : decode cX4_need 11 = .ok (.getfield 12, 3) := by decide +kernel
theorem dX4_need_14 : decode cX4_need 14 = .ok (.iload_n 2, 1) := by decide +kernel
theorem dX4_need_15 : decode cX4_need 15 = .ok (.invokevirtual 76, 3) := by decide +kernel
theorem dX4_need_18 : decode cX4_need 18 = .ok (.ifCond .ne 5, 3) := by decide +kernel
theorem dX4_need_21 : decode cX4_need 21 = .ok (.iconst (-1), 1) := by decide +kernel
theorem dX4_need_22 : decode cX4_need 22 = .ok (.ireturn, 1) := by decide +kernel
theorem dX4_need_23 : decode cX4_need 23 = .ok (.aload_n 0, 1) := by decide +kernel
theorem dX4_need_24 : decode cX4_need 24 = .ok (.getfield 19, 3) := by decide +kernel
theorem dX4_need_27 : decode cX4_need 27 = .ok (.invokevirtual 80, 3) := by decide +kernel
theorem dX4_need_30 : decode cX4_need 30 = .ok (.aload_n 3, 1) := by decide +kernel
theorem dX4_need_31 : decode cX4_need 31 = .ok (.iload_n 2, 1) := by decide +kernel
theorem dX4_need_32 : decode cX4_need 32 = .ok (.iconst 0, 1) := by decide +kernel
theorem dX4_need_33 : decode cX4_need 33 = .ok (.invokevirtual 83, 3) := by decide +kernel
theorem dX4_need_36 : decode cX4_need 36 = .ok (.istore 4, 2) := by decide +kernel
theorem dX4_need_38 : decode cX4_need 38 = .ok (.iload 4, 2) := by decide +kernel
theorem dX4_need_40 : decode cX4_need 40 = .ok (.ifCond .eq 14, 3) := by decide +kernel
theorem dX4_need_43 : decode cX4_need 43 = .ok (.aload_n 0, 1) := by decide +kernel
theorem dX4_need_44 : decode cX4_need 44 = .ok (.aload_n 3, 1) := by decide +kernel
theorem dX4_need_45 : decode cX4_need 45 = .ok (.getfield 87, 3) := by decide +kernel
theorem dX4_need_48 : decode cX4_need 48 = .ok (.getfield 90, 3) := by decide +kernel
theorem dX4_need_51 : decode cX4_need 51 = .ok (.putfield 94, 3) := by decide +kernel
theorem dX4_need_54 : decode cX4_need 54 = .ok (.aload_n 0, 1) := by decide +kernel
theorem dX4_need_55 : decode cX4_need 55 = .ok (.aload_n 3, 1) := by decide +kernel
theorem dX4_need_56 : decode cX4_need 56 = .ok (.iload 4, 2) := by decide +kernel
theorem dX4_need_58 : decode cX4_need 58 = .ok (.invokevirtual 97, 3) := by decide +kernel
theorem dX4_need_61 : decode cX4_need 61 = .ok (.ireturn, 1) := by decide +kernel
theorem dX4_value_0 : decode cX4_value 0 = .ok (.aload_n 0, 1) := by decide +kernel
theorem dX4_value_1 : decode cX4_value 1 = .ok (.getfield 94, 3) := by decide +kernel
theorem dX4_value_4 : decode cX4_value 4 = .ok (.ireturn, 1) := by decide +kernel
theorem dX4_start_0 : decode cX4_start 0 = .ok (.aload_n 0, 1) := by decide +kernel
theorem dX4_start_1 : decode cX4_start 1 = .ok (.iload_n 1, 1) := by decide +kernel
theorem dX4_start_2 : decode cX4_start 2 = .ok (.invokevirtual 72, 3) := by decide +kernel
theorem dX4_start_5 : decode cX4_start 5 = .ok (.astore_n 3, 1) := by decide +kernel
theorem dX4_start_6 : decode cX4_start 6 = .ok (.aload_n 3, 1) := by decide +kernel
theorem dX4_start_7 : decode cX4_start 7 = .ok (.ifnull 14, 3) := by decide +kernel
theorem dX4_start_10 : decode cX4_start 10 = .ok (.aload_n 0, 1) := by decide +kernel
theorem dX4_start_11 : decode cX4_start 11 = .ok (.getfield 12, 3) := by decide +kernel
theorem dX4_start_14 : decode cX4_start 14 = .ok (.iload_n 2, 1) := by decide +kernel
theorem dX4_start_15 : decode cX4_start 15 = .ok (.invokevirtual 101, 3) := by decide +kernel
theorem dX4_start_18 : decode cX4_start 18 = .ok (.ifCond .ne 5, 3) := by decide +kernel
theorem dX4_start_21 : decode cX4_start 21 = .ok (.iconst (-1), 1) := by decide +kernel
theorem dX4_start_22 : decode cX4_start 22 = .ok (.ireturn, 1) := by decide +kernel
theorem dX4_start_23 : decode cX4_start 23 = .ok (.aload_n 0, 1) := by decide +kernel
theorem dX4_start_24 : decode cX4_start 24 = .ok (.getfield 19, 3) := by decide +kernel
theorem dX4_start_27 : decode cX4_start 27 = .ok (.invokevirtual 80, 3) := by decide +kernel
theorem dX4_start_30 : decode cX4_start 30 = .ok (.aload_n 0, 1) := by decide +kernel
theorem dX4_start_31 : decode cX4_start 31 = .ok (.aload_n 3, 1) := by decide +kernel
theorem dX4_start_32 : decode cX4_start 32 = .ok (.aload_n 3, 1) := by decide +kernel
theorem dX4_start_33 : decode cX4_start 33 = .ok (.iload_n 2, 1) := by decide +kernel
theorem dX4_start_34 : decode cX4_start 34 = .ok (.iconst 0, 1) := by decide +kernel
theorem dX4_start_35 : decode cX4_start 35 = .ok (.invokevirtual 104, 3) := by decide +kernel
theorem dX4_start_38 : decode cX4_start 38 = .ok (.invokevirtual 97, 3) := by decide +kernel
theorem dX4_start_41 : decode cX4_start 41 = .ok (.ireturn, 1) := by decide +kernel
theorem dX4_fault_0 : decode cX4_fault 0 = .ok (.iload_n 1, 1) := by decide +kernel
theorem dX4_fault_1 : decode cX4_fault 1 = .ok (.tableswitch 63 0 3 #[31, 39, 47, 55], 31) := by decide +kernel
theorem dX4_fault_32 : decode cX4_fault 32 = .ok (.aload_n 0, 1) := by decide +kernel
theorem dX4_fault_33 : decode cX4_fault 33 = .ok (.getfield 35, 3) := by decide +kernel
theorem dX4_fault_36 : decode cX4_fault 36 = .ok (.getfield 107, 3) := by decide +kernel
theorem dX4_fault_39 : decode cX4_fault 39 = .ok (.ireturn, 1) := by decide +kernel
theorem dX4_fault_40 : decode cX4_fault 40 = .ok (.aload_n 0, 1) := by decide +kernel
theorem dX4_fault_41 : decode cX4_fault 41 = .ok (.getfield 35, 3) := by decide +kernel
theorem dX4_fault_44 : decode cX4_fault 44 = .ok (.getfield 110, 3) := by decide +kernel
theorem dX4_fault_47 : decode cX4_fault 47 = .ok (.ireturn, 1) := by decide +kernel
theorem dX4_fault_48 : decode cX4_fault 48 = .ok (.aload_n 0, 1) := by decide +kernel
theorem dX4_fault_49 : decode cX4_fault 49 = .ok (.getfield 35, 3) := by decide +kernel
theorem dX4_fault_52 : decode cX4_fault 52 = .ok (.getfield 113, 3) := by decide +kernel
theorem dX4_fault_55 : decode cX4_fault 55 = .ok (.ireturn, 1) := by decide +kernel
theorem dX4_fault_56 : decode cX4_fault 56 = .ok (.aload_n 0, 1) := by decide +kernel
theorem dX4_fault_57 : decode cX4_fault 57 = .ok (.getfield 35, 3) := by decide +kernel
theorem dX4_fault_60 : decode cX4_fault 60 = .ok (.getfield 116, 3) := by decide +kernel
theorem dX4_fault_63 : decode cX4_fault 63 = .ok (.ireturn, 1) := by decide +kernel
theorem dX4_fault_64 : decode cX4_fault 64 = .ok (.iconst (-1), 1) := by decide +kernel
theorem dX4_fault_65 : decode cX4_fault 65 = .ok (.ireturn, 1) := by decide +kernel
theorem dX4_state_0 : decode cX4_state 0 = .ok (.aload_n 0, 1) := by decide +kernel
theorem dX4_state_1 : decode cX4_state 1 = .ok (.iload_n 1, 1) := by decide +kernel
theorem dX4_state_2 : decode cX4_state 2 = .ok (.invokevirtual 72, 3) := by decide +kernel
theorem dX4_state_5 : decode cX4_state 5 = .ok (.astore_n 3, 1) := by decide +kernel
theorem dX4_state_6 : decode cX4_state 6 = .ok (.aload_n 3, 1) := by decide +kernel
theorem dX4_state_7 : decode cX4_state 7 = .ok (.ifnull 14, 3) := by decide +kernel
theorem dX4_state_10 : decode cX4_state 10 = .ok (.aload_n 0, 1) := by decide +kernel
theorem dX4_state_11 : decode cX4_state 11 = .ok (.getfield 12, 3) := by decide +kernel
theorem dX4_state_14 : decode cX4_state 14 = .ok (.iload_n 2, 1) := by decide +kernel
theorem dX4_state_15 : decode cX4_state 15 = .ok (.invokevirtual 101, 3) := by decide +kernel
theorem dX4_state_18 : decode cX4_state 18 = .ok (.ifCond .ne 7, 3) := by decide +kernel
theorem dX4_state_21 : decode cX4_state 21 = .ok (.iconst (-1), 1) := by decide +kernel
theorem dX4_state_22 : decode cX4_state 22 = .ok (.goto 9, 3) := by decide +kernel
theorem dX4_state_25 : decode cX4_state 25 = .ok (.aload_n 3, 1) := by decide +kernel
theorem dX4_state_26 : decode cX4_state 26 = .ok (.getfield 119, 3) := by decide +kernel
theorem dX4_state_29 : decode cX4_state 29 = .ok (.iload_n 2, 1) := by decide +kernel
theorem dX4_state_30 : decode cX4_state 30 = .ok (.iaload, 1) := by decide +kernel
theorem dX4_state_31 : decode cX4_state 31 = .ok (.ireturn, 1) := by decide +kernel
theorem dX4_kept_0 : decode cX4_kept 0 = .ok (.aload_n 0, 1) := by decide +kernel
theorem dX4_kept_1 : decode cX4_kept 1 = .ok (.iload_n 1, 1) := by decide +kernel
theorem dX4_kept_2 : decode cX4_kept 2 = .ok (.invokevirtual 72, 3) := by decide +kernel
theorem dX4_kept_5 : decode cX4_kept 5 = .ok (.astore_n 3, 1) := by decide +kernel
theorem dX4_kept_6 : decode cX4_kept 6 = .ok (.aload_n 3, 1) := by decide +kernel
theorem dX4_kept_7 : decode cX4_kept 7 = .ok (.ifnull 14, 3) := by decide +kernel
theorem dX4_kept_10 : decode cX4_kept 10 = .ok (.aload_n 0, 1) := by decide +kernel
theorem dX4_kept_11 : decode cX4_kept 11 = .ok (.getfield 12, 3) := by decide +kernel
theorem dX4_kept_14 : decode cX4_kept 14 = .ok (.iload_n 2, 1) := by decide +kernel
theorem dX4_kept_15 : decode cX4_kept 15 = .ok (.invokevirtual 76, 3) := by decide +kernel
theorem dX4_kept_18 : decode cX4_kept 18 = .ok (.ifCond .ne 7, 3) := by decide +kernel
theorem dX4_kept_21 : decode cX4_kept 21 = .ok (.iconst (-1), 1) := by decide +kernel
theorem dX4_kept_22 : decode cX4_kept 22 = .ok (.goto 8, 3) := by decide +kernel
theorem dX4_kept_25 : decode cX4_kept 25 = .ok (.aload_n 3, 1) := by decide +kernel
theorem dX4_kept_26 : decode cX4_kept 26 = .ok (.iload_n 2, 1) := by decide +kernel
theorem dX4_kept_27 : decode cX4_kept 27 = .ok (.invokevirtual 122, 3) := by decide +kernel
theorem dX4_kept_30 : decode cX4_kept 30 = .ok (.ireturn, 1) := by decide +kernel
theorem dX4_row_0 : decode cX4_row 0 = .ok (.aload_n 0, 1) := by decide +kernel
theorem dX4_row_1 : decode cX4_row 1 = .ok (.iload_n 1, 1) := by decide +kernel
theorem dX4_row_2 : decode cX4_row 2 = .ok (.invokevirtual 72, 3) := by decide +kernel
theorem dX4_row_5 : decode cX4_row 5 = .ok (.astore 4, 2) := by decide +kernel
theorem dX4_row_7 : decode cX4_row 7 = .ok (.aload 4, 2) := by decide +kernel
theorem dX4_row_9 : decode cX4_row 9 = .ok (.ifnull 14, 3) := by decide +kernel
theorem dX4_row_12 : decode cX4_row 12 = .ok (.aload_n 0, 1) := by decide +kernel
theorem dX4_row_13 : decode cX4_row 13 = .ok (.getfield 12, 3) := by decide +kernel
theorem dX4_row_16 : decode cX4_row 16 = .ok (.iload_n 2, 1) := by decide +kernel
theorem dX4_row_17 : decode cX4_row 17 = .ok (.invokevirtual 101, 3) := by decide +kernel
theorem dX4_row_20 : decode cX4_row 20 = .ok (.ifCond .ne 5, 3) := by decide +kernel
theorem dX4_row_23 : decode cX4_row 23 = .ok (.iconst (-1), 1) := by decide +kernel
theorem dX4_row_24 : decode cX4_row 24 = .ok (.ireturn, 1) := by decide +kernel
theorem dX4_row_25 : decode cX4_row 25 = .ok (.aload_n 0, 1) := by decide +kernel
theorem dX4_row_26 : decode cX4_row 26 = .ok (.getfield 12, 3) := by decide +kernel
theorem dX4_row_29 : decode cX4_row 29 = .ok (.iload_n 2, 1) := by decide +kernel
theorem dX4_row_30 : decode cX4_row 30 = .ok (.iload_n 3, 1) := by decide +kernel
theorem dX4_row_31 : decode cX4_row 31 = .ok (.invokevirtual 125, 3) := by decide +kernel
theorem dX4_row_34 : decode cX4_row 34 = .ok (.ifCond .eq 13, 3) := by decide +kernel
theorem dX4_row_37 : decode cX4_row 37 = .ok (.aload 4, 2) := by decide +kernel
theorem dX4_row_39 : decode cX4_row 39 = .ok (.iload_n 2, 1) := by decide +kernel
theorem dX4_row_40 : decode cX4_row 40 = .ok (.iload_n 3, 1) := by decide +kernel
theorem dX4_row_41 : decode cX4_row 41 = .ok (.invokevirtual 128, 3) := by decide +kernel
theorem dX4_row_44 : decode cX4_row 44 = .ok (.goto 5, 3) := by decide +kernel
theorem dX4_row_47 : decode cX4_row 47 = .ok (.bipush (-3), 2) := by decide +kernel
theorem dX4_row_49 : decode cX4_row 49 = .ok (.ireturn, 1) := by decide +kernel
theorem dX4_trace_0 : decode cX4_trace 0 = .ok (.iload_n 2, 1) := by decide +kernel
theorem dX4_trace_1 : decode cX4_trace 1 = .ok (.ifCond .eq 10, 3) := by decide +kernel
theorem dX4_trace_4 : decode cX4_trace 4 = .ok (.iload_n 2, 1) := by decide +kernel
theorem dX4_trace_5 : decode cX4_trace 5 = .ok (.iconst 1, 1) := by decide +kernel
theorem dX4_trace_6 : decode cX4_trace 6 = .ok (.if_icmp .eq 5, 3) := by decide +kernel
theorem dX4_trace_9 : decode cX4_trace 9 = .ok (.iconst (-1), 1) := by decide +kernel
theorem dX4_trace_10 : decode cX4_trace 10 = .ok (.ireturn, 1) := by decide +kernel
theorem dX4_trace_11 : decode cX4_trace 11 = .ok (.iload_n 1, 1) := by decide +kernel
theorem dX4_trace_12 : decode cX4_trace 12 = .ok (.ifCond .lt 14, 3) := by decide +kernel
theorem dX4_trace_15 : decode cX4_trace 15 = .ok (.iload_n 1, 1) := by decide +kernel
theorem dX4_trace_16 : decode cX4_trace 16 = .ok (.aload_n 0, 1) := by decide +kernel
theorem dX4_trace_17 : decode cX4_trace 17 = .ok (.getfield 19, 3) := by decide +kernel
theorem dX4_trace_20 : decode cX4_trace 20 = .ok (.getfield 131, 3) := by decide +kernel
theorem dX4_trace_23 : decode cX4_trace 23 = .ok (.if_icmp .lt 6, 3) := by decide +kernel
theorem dX4_trace_26 : decode cX4_trace 26 = .ok (.bipush (-3), 2) := by decide +kernel
theorem dX4_trace_28 : decode cX4_trace 28 = .ok (.ireturn, 1) := by decide +kernel
theorem dX4_trace_29 : decode cX4_trace 29 = .ok (.iload_n 2, 1) := by decide +kernel
theorem dX4_trace_30 : decode cX4_trace 30 = .ok (.ifCond .ne 15, 3) := by decide +kernel
theorem dX4_trace_33 : decode cX4_trace 33 = .ok (.aload_n 0, 1) := by decide +kernel
theorem dX4_trace_34 : decode cX4_trace 34 = .ok (.getfield 19, 3) := by decide +kernel
theorem dX4_trace_37 : decode cX4_trace 37 = .ok (.getfield 134, 3) := by decide +kernel
theorem dX4_trace_40 : decode cX4_trace 40 = .ok (.iload_n 1, 1) := by decide +kernel
theorem dX4_trace_41 : decode cX4_trace 41 = .ok (.iaload, 1) := by decide +kernel
theorem dX4_trace_42 : decode cX4_trace 42 = .ok (.goto 12, 3) := by decide +kernel
theorem dX4_trace_45 : decode cX4_trace 45 = .ok (.aload_n 0, 1) := by decide +kernel
theorem dX4_trace_46 : decode cX4_trace 46 = .ok (.getfield 19, 3) := by decide +kernel
theorem dX4_trace_49 : decode cX4_trace 49 = .ok (.getfield 137, 3) := by decide +kernel
theorem dX4_trace_52 : decode cX4_trace 52 = .ok (.iload_n 1, 1) := by decide +kernel
theorem dX4_trace_53 : decode cX4_trace 53 = .ok (.iaload, 1) := by decide +kernel
theorem dX4_trace_54 : decode cX4_trace 54 = .ok (.ireturn, 1) := by decide +kernel
theorem dX4_forget_0 : decode cX4_forget 0 = .ok (.aload_n 0, 1) := by decide +kernel
theorem dX4_forget_1 : decode cX4_forget 1 = .ok (.iload_n 1, 1) := by decide +kernel
theorem dX4_forget_2 : decode cX4_forget 2 = .ok (.invokevirtual 72, 3) := by decide +kernel
theorem dX4_forget_5 : decode cX4_forget 5 = .ok (.astore_n 2, 1) := by decide +kernel
theorem dX4_forget_6 : decode cX4_forget 6 = .ok (.aload_n 2, 1) := by decide +kernel
theorem dX4_forget_7 : decode cX4_forget 7 = .ok (.ifnonnull 5, 3) := by decide +kernel
theorem dX4_forget_10 : decode cX4_forget 10 = .ok (.iconst (-1), 1) := by decide +kernel
theorem dX4_forget_11 : decode cX4_forget 11 = .ok (.ireturn, 1) := by decide +kernel
theorem dX4_forget_12 : decode cX4_forget 12 = .ok (.aload_n 2, 1) := by decide +kernel
theorem dX4_forget_13 : decode cX4_forget 13 = .ok (.invokevirtual 140, 3) := by decide +kernel
theorem dX4_forget_16 : decode cX4_forget 16 = .ok (.istore_n 3, 1) := by decide +kernel
theorem dX4_forget_17 : decode cX4_forget 17 = .ok (.aload_n 2, 1) := by decide +kernel
theorem dX4_forget_18 : decode cX4_forget 18 = .ok (.invokevirtual 144, 3) := by decide +kernel
theorem dX4_forget_21 : decode cX4_forget 21 = .ok (.iload_n 3, 1) := by decide +kernel
theorem dX4_forget_22 : decode cX4_forget 22 = .ok (.ireturn, 1) := by decide +kernel
theorem dX4_alike_0 : decode cX4_alike 0 = .ok (.aload_n 0, 1) := by decide +kernel
theorem dX4_alike_1 : decode cX4_alike 1 = .ok (.getfield 145, 3) := by decide +kernel
theorem dX4_alike_4 : decode cX4_alike 4 = .ok (.bipush 40, 2) := by decide +kernel
theorem dX4_alike_6 : decode cX4_alike 6 = .ok (.if_icmp .lt 6, 3) := by decide +kernel
theorem dX4_alike_9 : decode cX4_alike 9 = .ok (.bipush (-2), 2) := by decide +kernel
theorem dX4_alike_11 : decode cX4_alike 11 = .ok (.ireturn, 1) := by decide +kernel
theorem dX4_alike_12 : decode cX4_alike 12 = .ok (.aload_n 0, 1) := by decide +kernel
theorem dX4_alike_13 : decode cX4_alike 13 = .ok (.dup, 1) := by decide +kernel
theorem dX4_alike_14 : decode cX4_alike 14 = .ok (.getfield 145, 3) := by decide +kernel
theorem dX4_alike_17 : decode cX4_alike 17 = .ok (.iconst 1, 1) := by decide +kernel
theorem dX4_alike_18 : decode cX4_alike 18 = .ok (.iadd, 1) := by decide +kernel
theorem dX4_alike_19 : decode cX4_alike 19 = .ok (.putfield 145, 3) := by decide +kernel
theorem dX4_alike_22 : decode cX4_alike 22 = .ok (.aload_n 0, 1) := by decide +kernel
theorem dX4_alike_23 : decode cX4_alike 23 = .ok (.invokevirtual 148, 3) := by decide +kernel
theorem dX4_alike_26 : decode cX4_alike 26 = .ok (.aload_n 0, 1) := by decide +kernel
theorem dX4_alike_27 : decode cX4_alike 27 = .ok (.iload_n 1, 1) := by decide +kernel
theorem dX4_alike_28 : decode cX4_alike 28 = .ok (.invokevirtual 151, 3) := by decide +kernel
theorem dX4_alike_31 : decode cX4_alike 31 = .ok (.aload_n 0, 1) := by decide +kernel
theorem dX4_alike_32 : decode cX4_alike 32 = .ok (.invokevirtual 155, 3) := by decide +kernel
theorem dX4_alike_35 : decode cX4_alike 35 = .ok (.ireturn, 1) := by decide +kernel
theorem dX4_told_0 : decode cX4_told 0 = .ok (.iload_n 1, 1) := by decide +kernel
theorem dX4_told_1 : decode cX4_told 1 = .ok (.tableswitch 60 0 3 #[31, 39, 47, 55], 31) := by decide +kernel
theorem dX4_told_32 : decode cX4_told 32 = .ok (.aload_n 0, 1) := by decide +kernel
theorem dX4_told_33 : decode cX4_told 33 = .ok (.getfield 12, 3) := by decide +kernel
theorem dX4_told_36 : decode cX4_told 36 = .ok (.getfield 158, 3) := by decide +kernel
theorem dX4_told_39 : decode cX4_told 39 = .ok (.ireturn, 1) := by decide +kernel
theorem dX4_told_40 : decode cX4_told 40 = .ok (.aload_n 0, 1) := by decide +kernel
theorem dX4_told_41 : decode cX4_told 41 = .ok (.getfield 12, 3) := by decide +kernel
theorem dX4_told_44 : decode cX4_told 44 = .ok (.getfield 161, 3) := by decide +kernel
theorem dX4_told_47 : decode cX4_told 47 = .ok (.ireturn, 1) := by decide +kernel
theorem dX4_told_48 : decode cX4_told 48 = .ok (.aload_n 0, 1) := by decide +kernel
theorem dX4_told_49 : decode cX4_told 49 = .ok (.getfield 19, 3) := by decide +kernel
theorem dX4_told_52 : decode cX4_told 52 = .ok (.getfield 131, 3) := by decide +kernel
theorem dX4_told_55 : decode cX4_told 55 = .ok (.ireturn, 1) := by decide +kernel
theorem dX4_told_56 : decode cX4_told 56 = .ok (.aload_n 0, 1) := by decide +kernel
theorem dX4_told_57 : decode cX4_told 57 = .ok (.invokevirtual 164, 3) := by decide +kernel
theorem dX4_told_60 : decode cX4_told 60 = .ok (.ireturn, 1) := by decide +kernel
theorem dX4_told_61 : decode cX4_told 61 = .ok (.iconst (-1), 1) := by decide +kernel
theorem dX4_told_62 : decode cX4_told 62 = .ok (.ireturn, 1) := by decide +kernel
theorem dX4_loaderAt_0 : decode cX4_loaderAt 0 = .ok (.iload_n 1, 1) := by decide +kernel
theorem dX4_loaderAt_1 : decode cX4_loaderAt 1 = .ok (.ifCond .lt 17, 3) := by decide +kernel
theorem dX4_loaderAt_4 : decode cX4_loaderAt 4 = .ok (.iload_n 1, 1) := by decide +kernel
theorem dX4_loaderAt_5 : decode cX4_loaderAt 5 = .ok (.iconst 3, 1) := by decide +kernel
theorem dX4_loaderAt_6 : decode cX4_loaderAt 6 = .ok (.if_icmp .ge 12, 3) := by decide +kernel
theorem dX4_loaderAt_9 : decode cX4_loaderAt 9 = .ok (.aload_n 0, 1) := by decide +kernel
theorem dX4_loaderAt_10 : decode cX4_loaderAt 10 = .ok (.getfield 25, 3) := by decide +kernel
theorem dX4_loaderAt_13 : decode cX4_loaderAt 13 = .ok (.iload_n 1, 1) := by decide +kernel
theorem dX4_loaderAt_14 : decode cX4_loaderAt 14 = .ok (.aaload, 1) := by decide +kernel
theorem dX4_loaderAt_15 : decode cX4_loaderAt 15 = .ok (.goto 4, 3) := by decide +kernel
theorem dX4_loaderAt_18 : decode cX4_loaderAt 18 = .ok (.aconst_null, 1) := by decide +kernel
theorem dX4_loaderAt_19 : decode cX4_loaderAt 19 = .ok (.areturn, 1) := by decide +kernel
theorem dX4_answer_0 : decode cX4_answer 0 = .ok (.iload_n 2, 1) := by decide +kernel
theorem dX4_answer_1 : decode cX4_answer 1 = .ok (.ifCond .eq 14, 3) := by decide +kernel
theorem dX4_answer_4 : decode cX4_answer 4 = .ok (.aload_n 0, 1) := by decide +kernel
theorem dX4_answer_5 : decode cX4_answer 5 = .ok (.getfield 35, 3) := by decide +kernel
theorem dX4_answer_8 : decode cX4_answer 8 = .ok (.iconst 0, 1) := by decide +kernel
theorem dX4_answer_9 : decode cX4_answer 9 = .ok (.invokevirtual 167, 3) := by decide +kernel
theorem dX4_answer_12 : decode cX4_answer 12 = .ok (.pop, 1) := by decide +kernel
theorem dX4_answer_13 : decode cX4_answer 13 = .ok (.iconst 1, 1) := by decide +kernel
theorem dX4_answer_14 : decode cX4_answer 14 = .ok (.ireturn, 1) := by decide +kernel
theorem dX4_answer_15 : decode cX4_answer 15 = .ok (.aload_n 0, 1) := by decide +kernel
theorem dX4_answer_16 : decode cX4_answer 16 = .ok (.getfield 35, 3) := by decide +kernel
theorem dX4_answer_19 : decode cX4_answer 19 = .ok (.aload_n 1, 1) := by decide +kernel
theorem dX4_answer_20 : decode cX4_answer 20 = .ok (.getfield 87, 3) := by decide +kernel
theorem dX4_answer_23 : decode cX4_answer 23 = .ok (.invokevirtual 170, 3) := by decide +kernel
theorem dX4_answer_26 : decode cX4_answer 26 = .ok (.bipush (-10), 2) := by decide +kernel
theorem dX4_answer_28 : decode cX4_answer 28 = .ok (.aload_n 0, 1) := by decide +kernel
theorem dX4_answer_29 : decode cX4_answer 29 = .ok (.getfield 35, 3) := by decide +kernel
theorem dX4_answer_32 : decode cX4_answer 32 = .ok (.getfield 107, 3) := by decide +kernel
theorem dX4_answer_35 : decode cX4_answer 35 = .ok (.isub, 1) := by decide +kernel
theorem dX4_answer_36 : decode cX4_answer 36 = .ok (.ireturn, 1) := by decide +kernel
theorem dX4_countWorked_0 : decode cX4_countWorked 0 = .ok (.iconst 0, 1) := by decide +kernel
theorem dX4_countWorked_1 : decode cX4_countWorked 1 = .ok (.istore_n 1, 1) := by decide +kernel
theorem dX4_countWorked_2 : decode cX4_countWorked 2 = .ok (.iconst 0, 1) := by decide +kernel
theorem dX4_countWorked_3 : decode cX4_countWorked 3 = .ok (.istore_n 2, 1) := by decide +kernel
theorem dX4_countWorked_4 : decode cX4_countWorked 4 = .ok (.iload_n 2, 1) := by decide +kernel
theorem dX4_countWorked_5 : decode cX4_countWorked 5 = .ok (.iconst 3, 1) := by decide +kernel
theorem dX4_countWorked_6 : decode cX4_countWorked 6 = .ok (.if_icmp .ge 21, 3) := by decide +kernel
theorem dX4_countWorked_9 : decode cX4_countWorked 9 = .ok (.iload_n 1, 1) := by decide +kernel
theorem dX4_countWorked_10 : decode cX4_countWorked 10 = .ok (.aload_n 0, 1) := by decide +kernel
theorem dX4_countWorked_11 : decode cX4_countWorked 11 = .ok (.getfield 25, 3) := by decide +kernel
theorem dX4_countWorked_14 : decode cX4_countWorked 14 = .ok (.iload_n 2, 1) := by decide +kernel
theorem dX4_countWorked_15 : decode cX4_countWorked 15 = .ok (.aaload, 1) := by decide +kernel
theorem dX4_countWorked_16 : decode cX4_countWorked 16 = .ok (.getfield 174, 3) := by decide +kernel
theorem dX4_countWorked_19 : decode cX4_countWorked 19 = .ok (.iadd, 1) := by decide +kernel
theorem dX4_countWorked_20 : decode cX4_countWorked 20 = .ok (.istore_n 1, 1) := by decide +kernel
theorem dX4_countWorked_21 : decode cX4_countWorked 21 = .ok (.iinc 2 1, 3) := by decide +kernel
theorem dX4_countWorked_24 : decode cX4_countWorked 24 = .ok (.goto (-20), 3) := by decide +kernel
theorem dX4_countWorked_27 : decode cX4_countWorked 27 = .ok (.iload_n 1, 1) := by decide +kernel
theorem dX4_countWorked_28 : decode cX4_countWorked 28 = .ok (.ireturn, 1) := by decide +kernel
theorem dX4_needByNumbers_0 : decode cX4_needByNumbers 0 = .ok (.aload_n 0, 1) := by decide +kernel
theorem dX4_needByNumbers_1 : decode cX4_needByNumbers 1 = .ok (.getfield 39, 3) := by decide +kernel
theorem dX4_needByNumbers_4 : decode cX4_needByNumbers 4 = .ok (.invokevirtual 144, 3) := by decide +kernel
theorem dX4_needByNumbers_7 : decode cX4_needByNumbers 7 = .ok (.iconst 0, 1) := by decide +kernel
theorem dX4_needByNumbers_8 : decode cX4_needByNumbers 8 = .ok (.istore_n 1, 1) := by decide +kernel
theorem dX4_needByNumbers_9 : decode cX4_needByNumbers 9 = .ok (.iload_n 1, 1) := by decide +kernel
theorem dX4_needByNumbers_10 : decode cX4_needByNumbers 10 = .ok (.aload_n 0, 1) := by decide +kernel
theorem dX4_needByNumbers_11 : decode cX4_needByNumbers 11 = .ok (.getfield 12, 3) := by decide +kernel
theorem dX4_needByNumbers_14 : decode cX4_needByNumbers 14 = .ok (.getfield 161, 3) := by decide +kernel
theorem dX4_needByNumbers_17 : decode cX4_needByNumbers 17 = .ok (.if_icmp .ge 51, 3) := by decide +kernel
theorem dX4_needByNumbers_20 : decode cX4_needByNumbers 20 = .ok (.aload_n 0, 1) := by decide +kernel
theorem dX4_needByNumbers_21 : decode cX4_needByNumbers 21 = .ok (.getfield 39, 3) := by decide +kernel
theorem dX4_needByNumbers_24 : decode cX4_needByNumbers 24 = .ok (.iload_n 1, 1) := by decide +kernel
theorem dX4_needByNumbers_25 : decode cX4_needByNumbers 25 = .ok (.iconst 0, 1) := by decide +kernel
theorem dX4_needByNumbers_26 : decode cX4_needByNumbers 26 = .ok (.invokevirtual 83, 3) := by decide +kernel
theorem dX4_needByNumbers_29 : decode cX4_needByNumbers 29 = .ok (.pop, 1) := by decide +kernel
theorem dX4_needByNumbers_30 : decode cX4_needByNumbers 30 = .ok (.aload_n 0, 1) := by decide +kernel
theorem dX4_needByNumbers_31 : decode cX4_needByNumbers 31 = .ok (.getfield 47, 3) := by decide +kernel
theorem dX4_needByNumbers_34 : decode cX4_needByNumbers 34 = .ok (.iload_n 1, 1) := by decide +kernel
theorem dX4_needByNumbers_35 : decode cX4_needByNumbers 35 = .ok (.aload_n 0, 1) := by decide +kernel
theorem dX4_needByNumbers_36 : decode cX4_needByNumbers 36 = .ok (.getfield 39, 3) := by decide +kernel
theorem dX4_needByNumbers_39 : decode cX4_needByNumbers 39 = .ok (.getfield 87, 3) := by decide +kernel
theorem dX4_needByNumbers_42 : decode cX4_needByNumbers 42 = .ok (.getfield 107, 3) := by decide +kernel
theorem dX4_needByNumbers_45 : decode cX4_needByNumbers 45 = .ok (.iastore, 1) := by decide +kernel
theorem dX4_needByNumbers_46 : decode cX4_needByNumbers 46 = .ok (.aload_n 0, 1) := by decide +kernel
theorem dX4_needByNumbers_47 : decode cX4_needByNumbers 47 = .ok (.getfield 50, 3) := by decide +kernel
theorem dX4_needByNumbers_50 : decode cX4_needByNumbers 50 = .ok (.iload_n 1, 1) := by decide +kernel
theorem dX4_needByNumbers_51 : decode cX4_needByNumbers 51 = .ok (.aload_n 0, 1) := by decide +kernel
theorem dX4_needByNumbers_52 : decode cX4_needByNumbers 52 = .ok (.getfield 39, 3) := by decide +kernel
theorem dX4_needByNumbers_55 : decode cX4_needByNumbers 55 = .ok (.getfield 87, 3) := by decide +kernel
theorem dX4_needByNumbers_58 : decode cX4_needByNumbers 58 = .ok (.getfield 90, 3) := by decide +kernel
theorem dX4_needByNumbers_61 : decode cX4_needByNumbers 61 = .ok (.iastore, 1) := by decide +kernel
theorem dX4_needByNumbers_62 : decode cX4_needByNumbers 62 = .ok (.iinc 1 1, 3) := by decide +kernel
theorem dX4_needByNumbers_65 : decode cX4_needByNumbers 65 = .ok (.goto (-56), 3) := by decide +kernel
theorem dX4_needByNumbers_68 : decode cX4_needByNumbers 68 = .ok (.return_, 1) := by decide +kernel
theorem dX4_mixOrder_0 : decode cX4_mixOrder 0 = .ok (.iconst 0, 1) := by decide +kernel
theorem dX4_mixOrder_1 : decode cX4_mixOrder 1 = .ok (.istore_n 2, 1) := by decide +kernel
theorem dX4_mixOrder_2 : decode cX4_mixOrder 2 = .ok (.iload_n 2, 1) := by decide +kernel
theorem dX4_mixOrder_3 : decode cX4_mixOrder 3 = .ok (.aload_n 0, 1) := by decide +kernel
theorem dX4_mixOrder_4 : decode cX4_mixOrder 4 = .ok (.getfield 12, 3) := by decide +kernel
theorem dX4_mixOrder_7 : decode cX4_mixOrder 7 = .ok (.getfield 161, 3) := by decide +kernel
theorem dX4_mixOrder_10 : decode cX4_mixOrder 10 = .ok (.if_icmp .ge 16, 3) := by decide +kernel
theorem dX4_mixOrder_13 : decode cX4_mixOrder 13 = .ok (.aload_n 0, 1) := by decide +kernel
theorem dX4_mixOrder_14 : decode cX4_mixOrder 14 = .ok (.getfield 43, 3) := by decide +kernel
theorem dX4_mixOrder_17 : decode cX4_mixOrder 17 = .ok (.iload_n 2, 1) := by decide +kernel
theorem dX4_mixOrder_18 : decode cX4_mixOrder 18 = .ok (.iload_n 2, 1) := by decide +kernel
theorem dX4_mixOrder_19 : decode cX4_mixOrder 19 = .ok (.iastore, 1) := by decide +kernel
theorem dX4_mixOrder_20 : decode cX4_mixOrder 20 = .ok (.iinc 2 1, 3) := by decide +kernel
theorem dX4_mixOrder_23 : decode cX4_mixOrder 23 = .ok (.goto (-21), 3) := by decide +kernel
theorem dX4_mixOrder_26 : decode cX4_mixOrder 26 = .ok (.iload_n 1, 1) := by decide +kernel
theorem dX4_mixOrder_27 : decode cX4_mixOrder 27 = .ok (.istore_n 2, 1) := by decide +kernel
theorem dX4_mixOrder_28 : decode cX4_mixOrder 28 = .ok (.aload_n 0, 1) := by decide +kernel
theorem dX4_mixOrder_29 : decode cX4_mixOrder 29 = .ok (.getfield 12, 3) := by decide +kernel
theorem dX4_mixOrder_32 : decode cX4_mixOrder 32 = .ok (.getfield 161, 3) := by decide +kernel
theorem dX4_mixOrder_35 : decode cX4_mixOrder 35 = .ok (.iconst 1, 1) := by decide +kernel
theorem dX4_mixOrder_36 : decode cX4_mixOrder 36 = .ok (.isub, 1) := by decide +kernel
theorem dX4_mixOrder_37 : decode cX4_mixOrder 37 = .ok (.istore_n 3, 1) := by decide +kernel
theorem dX4_mixOrder_38 : decode cX4_mixOrder 38 = .ok (.iload_n 3, 1) := by decide +kernel
theorem dX4_mixOrder_39 : decode cX4_mixOrder 39 = .ok (.iconst 1, 1) := by decide +kernel
theorem dX4_mixOrder_40 : decode cX4_mixOrder 40 = .ok (.if_icmp .lt 58, 3) := by decide +kernel
theorem dX4_mixOrder_43 : decode cX4_mixOrder 43 = .ok (.iload_n 2, 1) := by decide +kernel
theorem dX4_mixOrder_44 : decode cX4_mixOrder 44 = .ok (.ldc 177, 2) := by decide +kernel
theorem dX4_mixOrder_46 : decode cX4_mixOrder 46 = .ok (.imul, 1) := by decide +kernel
theorem dX4_mixOrder_47 : decode cX4_mixOrder 47 = .ok (.sipush 12345, 3) := by decide +kernel
theorem dX4_mixOrder_50 : decode cX4_mixOrder 50 = .ok (.iadd, 1) := by decide +kernel
theorem dX4_mixOrder_51 : decode cX4_mixOrder 51 = .ok (.istore_n 2, 1) := by decide +kernel
theorem dX4_mixOrder_52 : decode cX4_mixOrder 52 = .ok (.iload_n 2, 1) := by decide +kernel
theorem dX4_mixOrder_53 : decode cX4_mixOrder 53 = .ok (.bipush 16, 2) := by decide +kernel
theorem dX4_mixOrder_55 : decode cX4_mixOrder 55 = .ok (.iushr, 1) := by decide +kernel
theorem dX4_mixOrder_56 : decode cX4_mixOrder 56 = .ok (.iload_n 3, 1) := by decide +kernel
theorem dX4_mixOrder_57 : decode cX4_mixOrder 57 = .ok (.iconst 1, 1) := by decide +kernel
theorem dX4_mixOrder_58 : decode cX4_mixOrder 58 = .ok (.iadd, 1) := by decide +kernel
theorem dX4_mixOrder_59 : decode cX4_mixOrder 59 = .ok (.irem, 1) := by decide +kernel
theorem dX4_mixOrder_60 : decode cX4_mixOrder 60 = .ok (.istore 4, 2) := by decide +kernel
theorem dX4_mixOrder_62 : decode cX4_mixOrder 62 = .ok (.aload_n 0, 1) := by decide +kernel
theorem dX4_mixOrder_63 : decode cX4_mixOrder 63 = .ok (.getfield 43, 3) := by decide +kernel
theorem dX4_mixOrder_66 : decode cX4_mixOrder 66 = .ok (.iload_n 3, 1) := by decide +kernel
theorem dX4_mixOrder_67 : decode cX4_mixOrder 67 = .ok (.iaload, 1) := by decide +kernel
theorem dX4_mixOrder_68 : decode cX4_mixOrder 68 = .ok (.istore 5, 2) := by decide +kernel
theorem dX4_mixOrder_70 : decode cX4_mixOrder 70 = .ok (.aload_n 0, 1) := by decide +kernel
theorem dX4_mixOrder_71 : decode cX4_mixOrder 71 = .ok (.getfield 43, 3) := by decide +kernel
theorem dX4_mixOrder_74 : decode cX4_mixOrder 74 = .ok (.iload_n 3, 1) := by decide +kernel
theorem dX4_mixOrder_75 : decode cX4_mixOrder 75 = .ok (.aload_n 0, 1) := by decide +kernel
theorem dX4_mixOrder_76 : decode cX4_mixOrder 76 = .ok (.getfield 43, 3) := by decide +kernel
theorem dX4_mixOrder_79 : decode cX4_mixOrder 79 = .ok (.iload 4, 2) := by decide +kernel
theorem dX4_mixOrder_81 : decode cX4_mixOrder 81 = .ok (.iaload, 1) := by decide +kernel
theorem dX4_mixOrder_82 : decode cX4_mixOrder 82 = .ok (.iastore, 1) := by decide +kernel
theorem dX4_mixOrder_83 : decode cX4_mixOrder 83 = .ok (.aload_n 0, 1) := by decide +kernel
theorem dX4_mixOrder_84 : decode cX4_mixOrder 84 = .ok (.getfield 43, 3) := by decide +kernel
theorem dX4_mixOrder_87 : decode cX4_mixOrder 87 = .ok (.iload 4, 2) := by decide +kernel
theorem dX4_mixOrder_89 : decode cX4_mixOrder 89 = .ok (.iload 5, 2) := by decide +kernel
theorem dX4_mixOrder_91 : decode cX4_mixOrder 91 = .ok (.iastore, 1) := by decide +kernel
theorem dX4_mixOrder_92 : decode cX4_mixOrder 92 = .ok (.iinc 3 (-1), 3) := by decide +kernel
theorem dX4_mixOrder_95 : decode cX4_mixOrder 95 = .ok (.goto (-57), 3) := by decide +kernel
theorem dX4_mixOrder_98 : decode cX4_mixOrder 98 = .ok (.return_, 1) := by decide +kernel
theorem dX4_countUnlike_0 : decode cX4_countUnlike 0 = .ok (.aload_n 0, 1) := by decide +kernel
theorem dX4_countUnlike_1 : decode cX4_countUnlike 1 = .ok (.getfield 39, 3) := by decide +kernel
theorem dX4_countUnlike_4 : decode cX4_countUnlike 4 = .ok (.invokevirtual 144, 3) := by decide +kernel
theorem dX4_countUnlike_7 : decode cX4_countUnlike 7 = .ok (.iconst 0, 1) := by decide +kernel
theorem dX4_countUnlike_8 : decode cX4_countUnlike 8 = .ok (.istore_n 1, 1) := by decide +kernel
theorem dX4_countUnlike_9 : decode cX4_countUnlike 9 = .ok (.iconst 0, 1) := by decide +kernel
theorem dX4_countUnlike_10 : decode cX4_countUnlike 10 = .ok (.istore_n 2, 1) := by decide +kernel
theorem dX4_countUnlike_11 : decode cX4_countUnlike 11 = .ok (.iload_n 2, 1) := by decide +kernel
theorem dX4_countUnlike_12 : decode cX4_countUnlike 12 = .ok (.aload_n 0, 1) := by decide +kernel
theorem dX4_countUnlike_13 : decode cX4_countUnlike 13 = .ok (.getfield 12, 3) := by decide +kernel
theorem dX4_countUnlike_16 : decode cX4_countUnlike 16 = .ok (.getfield 161, 3) := by decide +kernel
theorem dX4_countUnlike_19 : decode cX4_countUnlike 19 = .ok (.if_icmp .ge 67, 3) := by decide +kernel
theorem dX4_countUnlike_22 : decode cX4_countUnlike 22 = .ok (.aload_n 0, 1) := by decide +kernel
theorem dX4_countUnlike_23 : decode cX4_countUnlike 23 = .ok (.getfield 43, 3) := by decide +kernel
theorem dX4_countUnlike_26 : decode cX4_countUnlike 26 = .ok (.iload_n 2, 1) := by decide +kernel
theorem dX4_countUnlike_27 : decode cX4_countUnlike 27 = .ok (.iaload, 1) := by decide +kernel
theorem dX4_countUnlike_28 : decode cX4_countUnlike 28 = .ok (.istore_n 3, 1) := by decide +kernel
theorem dX4_countUnlike_29 : decode cX4_countUnlike 29 = .ok (.aload_n 0, 1) := by decide +kernel
theorem dX4_countUnlike_30 : decode cX4_countUnlike 30 = .ok (.getfield 39, 3) := by decide +kernel
theorem dX4_countUnlike_33 : decode cX4_countUnlike 33 = .ok (.iload_n 3, 1) := by decide +kernel
theorem dX4_countUnlike_34 : decode cX4_countUnlike 34 = .ok (.iconst 0, 1) := by decide +kernel
theorem dX4_countUnlike_35 : decode cX4_countUnlike 35 = .ok (.invokevirtual 83, 3) := by decide +kernel
theorem dX4_countUnlike_38 : decode cX4_countUnlike 38 = .ok (.pop, 1) := by decide +kernel
theorem dX4_countUnlike_39 : decode cX4_countUnlike 39 = .ok (.aload_n 0, 1) := by decide +kernel
theorem dX4_countUnlike_40 : decode cX4_countUnlike 40 = .ok (.getfield 39, 3) := by decide +kernel
theorem dX4_countUnlike_43 : decode cX4_countUnlike 43 = .ok (.getfield 87, 3) := by decide +kernel
theorem dX4_countUnlike_46 : decode cX4_countUnlike 46 = .ok (.getfield 107, 3) := by decide +kernel
theorem dX4_countUnlike_49 : decode cX4_countUnlike 49 = .ok (.aload_n 0, 1) := by decide +kernel
theorem dX4_countUnlike_50 : decode cX4_countUnlike 50 = .ok (.getfield 47, 3) := by decide +kernel
theorem dX4_countUnlike_53 : decode cX4_countUnlike 53 = .ok (.iload_n 3, 1) := by decide +kernel
theorem dX4_countUnlike_54 : decode cX4_countUnlike 54 = .ok (.iaload, 1) := by decide +kernel
theorem dX4_countUnlike_55 : decode cX4_countUnlike 55 = .ok (.if_icmp .ne 22, 3) := by decide +kernel
theorem dX4_countUnlike_58 : decode cX4_countUnlike 58 = .ok (.aload_n 0, 1) := by decide +kernel
theorem dX4_countUnlike_59 : decode cX4_countUnlike 59 = .ok (.getfield 39, 3) := by decide +kernel
theorem dX4_countUnlike_62 : decode cX4_countUnlike 62 = .ok (.getfield 87, 3) := by decide +kernel
theorem dX4_countUnlike_65 : decode cX4_countUnlike 65 = .ok (.getfield 90, 3) := by decide +kernel
theorem dX4_countUnlike_68 : decode cX4_countUnlike 68 = .ok (.aload_n 0, 1) := by decide +kernel
theorem dX4_countUnlike_69 : decode cX4_countUnlike 69 = .ok (.getfield 50, 3) := by decide +kernel
theorem dX4_countUnlike_72 : decode cX4_countUnlike 72 = .ok (.iload_n 3, 1) := by decide +kernel
theorem dX4_countUnlike_73 : decode cX4_countUnlike 73 = .ok (.iaload, 1) := by decide +kernel
theorem dX4_countUnlike_74 : decode cX4_countUnlike 74 = .ok (.if_icmp .eq 6, 3) := by decide +kernel
theorem dX4_countUnlike_77 : decode cX4_countUnlike 77 = .ok (.iinc 1 1, 3) := by decide +kernel
theorem dX4_countUnlike_80 : decode cX4_countUnlike 80 = .ok (.iinc 2 1, 3) := by decide +kernel
theorem dX4_countUnlike_83 : decode cX4_countUnlike 83 = .ok (.goto (-72), 3) := by decide +kernel
theorem dX4_countUnlike_86 : decode cX4_countUnlike 86 = .ok (.iload_n 1, 1) := by decide +kernel
theorem dX4_countUnlike_87 : decode cX4_countUnlike 87 = .ok (.ireturn, 1) := by decide +kernel
