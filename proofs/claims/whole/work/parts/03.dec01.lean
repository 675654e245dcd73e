theorem dX6_plan_59 : decode cX6_plan 59 = .ok (.getfield 39, 3) := by decide +kernel
theorem dX6_plan_62 : decode cX6_plan 62 = .ok (.iload 5, 2) := by decide +kernel
theorem dX6_plan_64 : decode cX6_plan 64 = .ok (.iaload, 1) := by decide +kernel
theorem dX6_plan_65 : decode cX6_plan 65 = .ok (.iload 4, 2) := by decide +kernel
theorem dX6_plan_67 : decode cX6_plan 67 = .ok (.invokevirtual 44, 3) := by decide +kernel
theorem dX6_plan_70 : decode cX6_plan 70 = .ok (.aload_n 0, 1) := by decide +kernel
theorem dX6_plan_71 : decode cX6_plan 71 = .ok (.dup, 1) := by decide +kernel
theorem dX6_plan_72 : decode cX6_plan 72 = .ok (.getfield 23, 3) := by decide +kernel
theorem dX6_plan_75 : decode cX6_plan 75 = .ok (.iconst 1, 1) := by decide +kernel
theorem dX6_plan_76 : decode cX6_plan 76 = .ok (.iadd, 1) := by decide +kernel
theorem dX6_plan_77 : decode cX6_plan 77 = .ok (.putfield 23, 3) := by decide +kernel
theorem dX6_plan_80 : decode cX6_plan 80 = .ok (.iinc 5 1, 3) := by decide +kernel
theorem dX6_plan_83 : decode cX6_plan 83 = .ok (.goto (-75), 3) := by decide +kernel
theorem dX6_plan_86 : decode cX6_plan 86 = .ok (.iconst 1, 1) := by decide +kernel
theorem dX6_plan_87 : decode cX6_plan 87 = .ok (.aload_n 0, 1) := by decide +kernel
theorem dX6_plan_88 : decode cX6_plan 88 = .ok (.getfield 23, 3) := by decide +kernel
theorem dX6_plan_91 : decode cX6_plan 91 = .ok (.ishl, 1) := by decide +kernel
theorem dX6_plan_92 : decode cX6_plan 92 = .ok (.iconst 1, 1) := by decide +kernel
theorem dX6_plan_93 : decode cX6_plan 93 = .ok (.isub, 1) := by decide +kernel
theorem dX6_plan_94 : decode cX6_plan 94 = .ok (.istore 5, 2) := by decide +kernel
theorem dX6_plan_96 : decode cX6_plan 96 = .ok (.aload_n 0, 1) := by decide +kernel
theorem dX6_plan_97 : decode cX6_plan 97 = .ok (.getfield 20, 3) := by decide +kernel
theorem dX6_plan_100 : decode cX6_plan 100 = .ok (.iload 5, 2) := by decide +kernel
theorem dX6_plan_102 : decode cX6_plan 102 = .ok (.iconst 0, 1) := by decide +kernel
theorem dX6_plan_103 : decode cX6_plan 103 = .ok (.iastore, 1) := by decide +kernel
theorem dX6_plan_104 : decode cX6_plan 104 = .ok (.iload 5, 2) := by decide +kernel
theorem dX6_plan_106 : decode cX6_plan 106 = .ok (.iconst 1, 1) := by decide +kernel
theorem dX6_plan_107 : decode cX6_plan 107 = .ok (.isub, 1) := by decide +kernel
theorem dX6_plan_108 : decode cX6_plan 108 = .ok (.istore 6, 2) := by decide +kernel
theorem dX6_plan_110 : decode cX6_plan 110 = .ok (.iload 6, 2) := by decide +kernel
theorem dX6_plan_112 : decode cX6_plan 112 = .ok (.ifCond .lt 22, 3) := by decide +kernel
theorem dX6_plan_115 : decode cX6_plan 115 = .ok (.aload_n 0, 1) := by decide +kernel
theorem dX6_plan_116 : decode cX6_plan 116 = .ok (.getfield 20, 3) := by decide +kernel
theorem dX6_plan_119 : decode cX6_plan 119 = .ok (.iload 6, 2) := by decide +kernel
theorem dX6_plan_121 : decode cX6_plan 121 = .ok (.aload_n 0, 1) := by decide +kernel
theorem dX6_plan_122 : decode cX6_plan 122 = .ok (.iload 6, 2) := by decide +kernel
theorem dX6_plan_124 : decode cX6_plan 124 = .ok (.invokevirtual 48, 3) := by decide +kernel
theorem dX6_plan_127 : decode cX6_plan 127 = .ok (.iastore, 1) := by decide +kernel
theorem dX6_plan_128 : decode cX6_plan 128 = .ok (.iinc 6 (-1), 3) := by decide +kernel
theorem dX6_plan_131 : decode cX6_plan 131 = .ok (.goto (-21), 3) := by decide +kernel
theorem dX6_plan_134 : decode cX6_plan 134 = .ok (.return_, 1) := by decide +kernel
theorem dX6_fillPulls_0 : decode cX6_fillPulls 0 = .ok (.iconst 0, 1) := by decide +kernel
theorem dX6_fillPulls_1 : decode cX6_fillPulls 1 = .ok (.istore 5, 2) := by decide +kernel
theorem dX6_fillPulls_3 : decode cX6_fillPulls 3 = .ok (.iload 5, 2) := by decide +kernel
theorem dX6_fillPulls_5 : decode cX6_fillPulls 5 = .ok (.bipush 6, 2) := by decide +kernel
theorem dX6_fillPulls_7 : decode cX6_fillPulls 7 = .ok (.if_icmp .ge 82, 3) := by decide +kernel
theorem dX6_fillPulls_10 : decode cX6_fillPulls 10 = .ok (.aload_n 1, 1) := by decide +kernel
theorem dX6_fillPulls_11 : decode cX6_fillPulls 11 = .ok (.getfield 27, 3) := by decide +kernel
theorem dX6_fillPulls_14 : decode cX6_fillPulls 14 = .ok (.getfield 52, 3) := by decide +kernel
theorem dX6_fillPulls_17 : decode cX6_fillPulls 17 = .ok (.iload_n 2, 1) := by decide +kernel
theorem dX6_fillPulls_18 : decode cX6_fillPulls 18 = .ok (.iaload, 1) := by decide +kernel
theorem dX6_fillPulls_19 : decode cX6_fillPulls 19 = .ok (.iload_n 3, 1) := by decide +kernel
theorem dX6_fillPulls_20 : decode cX6_fillPulls 20 = .ok (.iload 5, 2) := by decide +kernel
theorem dX6_fillPulls_22 : decode cX6_fillPulls 22 = .ok (.iadd, 1) := by decide +kernel
theorem dX6_fillPulls_23 : decode cX6_fillPulls 23 = .ok (.invokestatic 53, 3) := by decide +kernel
theorem dX6_fillPulls_26 : decode cX6_fillPulls 26 = .ok (.istore 6, 2) := by decide +kernel
theorem dX6_fillPulls_28 : decode cX6_fillPulls 28 = .ok (.aload_n 1, 1) := by decide +kernel
theorem dX6_fillPulls_29 : decode cX6_fillPulls 29 = .ok (.getfield 59, 3) := by decide +kernel
theorem dX6_fillPulls_32 : decode cX6_fillPulls 32 = .ok (.iload 6, 2) := by decide +kernel
theorem dX6_fillPulls_34 : decode cX6_fillPulls 34 = .ok (.invokevirtual 63, 3) := by decide +kernel
theorem dX6_fillPulls_37 : decode cX6_fillPulls 37 = .ok (.istore 7, 2) := by decide +kernel
theorem dX6_fillPulls_39 : decode cX6_fillPulls 39 = .ok (.iload 7, 2) := by decide +kernel
theorem dX6_fillPulls_41 : decode cX6_fillPulls 41 = .ok (.iconst 0, 1) := by decide +kernel
theorem dX6_fillPulls_42 : decode cX6_fillPulls 42 = .ok (.iload 4, 2) := by decide +kernel
theorem dX6_fillPulls_44 : decode cX6_fillPulls 44 = .ok (.iload 5, 2) := by decide +kernel
theorem dX6_fillPulls_46 : decode cX6_fillPulls 46 = .ok (.isub, 1) := by decide +kernel
theorem dX6_fillPulls_47 : decode cX6_fillPulls 47 = .ok (.invokestatic 68, 3) := by decide +kernel
theorem dX6_fillPulls_50 : decode cX6_fillPulls 50 = .ok (.isub, 1) := by decide +kernel
theorem dX6_fillPulls_51 : decode cX6_fillPulls 51 = .ok (.istore 8, 2) := by decide +kernel
theorem dX6_fillPulls_53 : decode cX6_fillPulls 53 = .ok (.aload_n 0, 1) := by decide +kernel
theorem dX6_fillPulls_54 : decode cX6_fillPulls 54 = .ok (.getfield 17, 3) := by decide +kernel
theorem dX6_fillPulls_57 : decode cX6_fillPulls 57 = .ok (.aload_n 0, 1) := by decide +kernel
theorem dX6_fillPulls_58 : decode cX6_fillPulls 58 = .ok (.getfield 23, 3) := by decide +kernel
theorem dX6_fillPulls_61 : decode cX6_fillPulls 61 = .ok (.aaload, 1) := by decide +kernel
theorem dX6_fillPulls_62 : decode cX6_fillPulls 62 = .ok (.iload 5, 2) := by decide +kernel
theorem dX6_fillPulls_64 : decode cX6_fillPulls 64 = .ok (.aload_n 1, 1) := by decide +kernel
theorem dX6_fillPulls_65 : decode cX6_fillPulls 65 = .ok (.getfield 59, 3) := by decide +kernel
theorem dX6_fillPulls_68 : decode cX6_fillPulls 68 = .ok (.iload 8, 2) := by decide +kernel
theorem dX6_fillPulls_70 : decode cX6_fillPulls 70 = .ok (.aload_n 1, 1) := by decide +kernel
theorem dX6_fillPulls_71 : decode cX6_fillPulls 71 = .ok (.getfield 27, 3) := by decide +kernel
theorem dX6_fillPulls_74 : decode cX6_fillPulls 74 = .ok (.getfield 71, 3) := by decide +kernel
theorem dX6_fillPulls_77 : decode cX6_fillPulls 77 = .ok (.iload_n 2, 1) := by decide +kernel
theorem dX6_fillPulls_78 : decode cX6_fillPulls 78 = .ok (.iaload, 1) := by decide +kernel
theorem dX6_fillPulls_79 : decode cX6_fillPulls 79 = .ok (.invokevirtual 74, 3) := by decide +kernel
theorem dX6_fillPulls_82 : decode cX6_fillPulls 82 = .ok (.iastore, 1) := by decide +kernel
theorem dX6_fillPulls_83 : decode cX6_fillPulls 83 = .ok (.iinc 5 1, 3) := by decide +kernel
theorem dX6_fillPulls_86 : decode cX6_fillPulls 86 = .ok (.goto (-83), 3) := by decide +kernel
theorem dX6_fillPulls_89 : decode cX6_fillPulls 89 = .ok (.return_, 1) := by decide +kernel
theorem dX6_mostBehind_0 : decode cX6_mostBehind 0 = .ok (.iconst 0, 1) := by decide +kernel
theorem dX6_mostBehind_1 : decode cX6_mostBehind 1 = .ok (.istore_n 2, 1) := by decide +kernel
theorem dX6_mostBehind_2 : decode cX6_mostBehind 2 = .ok (.iconst 0, 1) := by decide +kernel
theorem dX6_mostBehind_3 : decode cX6_mostBehind 3 = .ok (.istore_n 3, 1) := by decide +kernel
theorem dX6_mostBehind_4 : decode cX6_mostBehind 4 = .ok (.iload_n 3, 1) := by decide +kernel
theorem dX6_mostBehind_5 : decode cX6_mostBehind 5 = .ok (.aload_n 0, 1) := by decide +kernel
theorem dX6_mostBehind_6 : decode cX6_mostBehind 6 = .ok (.getfield 23, 3) := by decide +kernel
theorem dX6_mostBehind_9 : decode cX6_mostBehind 9 = .ok (.if_icmp .ge 28, 3) := by decide +kernel
theorem dX6_mostBehind_12 : decode cX6_mostBehind 12 = .ok (.iload_n 1, 1) := by decide +kernel
theorem dX6_mostBehind_13 : decode cX6_mostBehind 13 = .ok (.iload_n 3, 1) := by decide +kernel
theorem dX6_mostBehind_14 : decode cX6_mostBehind 14 = .ok (.ishr, 1) := by decide +kernel
theorem dX6_mostBehind_15 : decode cX6_mostBehind 15 = .ok (.iconst 1, 1) := by decide +kernel
theorem dX6_mostBehind_16 : decode cX6_mostBehind 16 = .ok (.iand, 1) := by decide +kernel
theorem dX6_mostBehind_17 : decode cX6_mostBehind 17 = .ok (.ifCond .ne 14, 3) := by decide +kernel
theorem dX6_mostBehind_20 : decode cX6_mostBehind 20 = .ok (.iload_n 2, 1) := by decide +kernel
theorem dX6_mostBehind_21 : decode cX6_mostBehind 21 = .ok (.aload_n 0, 1) := by decide +kernel
theorem dX6_mostBehind_22 : decode cX6_mostBehind 22 = .ok (.iload_n 1, 1) := by decide +kernel
theorem dX6_mostBehind_23 : decode cX6_mostBehind 23 = .ok (.iload_n 3, 1) := by decide +kernel
theorem dX6_mostBehind_24 : decode cX6_mostBehind 24 = .ok (.invokevirtual 77, 3) := by decide +kernel
theorem dX6_mostBehind_27 : decode cX6_mostBehind 27 = .ok (.invokestatic 68, 3) := by decide +kernel
theorem dX6_mostBehind_30 : decode cX6_mostBehind 30 = .ok (.istore_n 2, 1) := by decide +kernel
theorem dX6_mostBehind_31 : decode cX6_mostBehind 31 = .ok (.iinc 3 1, 3) := by decide +kernel
theorem dX6_mostBehind_34 : decode cX6_mostBehind 34 = .ok (.goto (-30), 3) := by decide +kernel
theorem dX6_mostBehind_37 : decode cX6_mostBehind 37 = .ok (.iload_n 2, 1) := by decide +kernel
theorem dX6_mostBehind_38 : decode cX6_mostBehind 38 = .ok (.ireturn, 1) := by decide +kernel
theorem dX6_throughMember_0 : decode cX6_throughMember 0 = .ok (.iload_n 1, 1) := by decide +kernel
theorem dX6_throughMember_1 : decode cX6_throughMember 1 = .ok (.invokestatic 80, 3) := by decide +kernel
theorem dX6_throughMember_4 : decode cX6_throughMember 4 = .ok (.istore_n 3, 1) := by decide +kernel
theorem dX6_throughMember_5 : decode cX6_throughMember 5 = .ok (.iload_n 3, 1) := by decide +kernel
theorem dX6_throughMember_6 : decode cX6_throughMember 6 = .ok (.bipush 6, 2) := by decide +kernel
theorem dX6_throughMember_8 : decode cX6_throughMember 8 = .ok (.if_icmp .lt 7, 3) := by decide +kernel
theorem dX6_throughMember_11 : decode cX6_throughMember 11 = .ok (.iconst 0, 1) := by decide +kernel
theorem dX6_throughMember_12 : decode cX6_throughMember 12 = .ok (.goto 22, 3) := by decide +kernel
theorem dX6_throughMember_15 : decode cX6_throughMember 15 = .ok (.aload_n 0, 1) := by decide +kernel
theorem dX6_throughMember_16 : decode cX6_throughMember 16 = .ok (.getfield 17, 3) := by decide +kernel
theorem dX6_throughMember_19 : decode cX6_throughMember 19 = .ok (.iload_n 2, 1) := by decide +kernel
theorem dX6_throughMember_20 : decode cX6_throughMember 20 = .ok (.aaload, 1) := by decide +kernel
theorem dX6_throughMember_21 : decode cX6_throughMember 21 = .ok (.iload_n 3, 1) := by decide +kernel
theorem dX6_throughMember_22 : decode cX6_throughMember 22 = .ok (.iaload, 1) := by decide +kernel
theorem dX6_throughMember_23 : decode cX6_throughMember 23 = .ok (.aload_n 0, 1) := by decide +kernel
theorem dX6_throughMember_24 : decode cX6_throughMember 24 = .ok (.getfield 20, 3) := by decide +kernel
theorem dX6_throughMember_27 : decode cX6_throughMember 27 = .ok (.iload_n 1, 1) := by decide +kernel
theorem dX6_throughMember_28 : decode cX6_throughMember 28 = .ok (.iconst 1, 1) := by decide +kernel
theorem dX6_throughMember_29 : decode cX6_throughMember 29 = .ok (.iload_n 2, 1) := by decide +kernel
theorem dX6_throughMember_30 : decode cX6_throughMember 30 = .ok (.ishl, 1) := by decide +kernel
theorem dX6_throughMember_31 : decode cX6_throughMember 31 = .ok (.ior, 1) := by decide +kernel
theorem dX6_throughMember_32 : decode cX6_throughMember 32 = .ok (.iaload, 1) := by decide +kernel
theorem dX6_throughMember_33 : decode cX6_throughMember 33 = .ok (.iadd, 1) := by decide +kernel
theorem dX6_throughMember_34 : decode cX6_throughMember 34 = .ok (.ireturn, 1) := by decide +kernel
theorem dX6_farthest_0 : decode cX6_farthest 0 = .ok (.aload_n 0, 1) := by decide +kernel
theorem dX6_farthest_1 : decode cX6_farthest 1 = .ok (.getfield 20, 3) := by decide +kernel
theorem dX6_farthest_4 : decode cX6_farthest 4 = .ok (.iconst 0, 1) := by decide +kernel
theorem dX6_farthest_5 : decode cX6_farthest 5 = .ok (.iaload, 1) := by decide +kernel
theorem dX6_farthest_6 : decode cX6_farthest 6 = .ok (.ireturn, 1) := by decide +kernel
theorem dX6_nth_0 : decode cX6_nth 0 = .ok (.iload_n 1, 1) := by decide +kernel
theorem dX6_nth_1 : decode cX6_nth 1 = .ok (.ifCond .lt 11, 3) := by decide +kernel
theorem dX6_nth_4 : decode cX6_nth 4 = .ok (.iload_n 1, 1) := by decide +kernel
theorem dX6_nth_5 : decode cX6_nth 5 = .ok (.aload_n 0, 1) := by decide +kernel
theorem dX6_nth_6 : decode cX6_nth 6 = .ok (.getfield 23, 3) := by decide +kernel
theorem dX6_nth_9 : decode cX6_nth 9 = .ok (.if_icmp .lt 5, 3) := by decide +kernel
theorem dX6_nth_12 : decode cX6_nth 12 = .ok (.iconst (-1), 1) := by decide +kernel
theorem dX6_nth_13 : decode cX6_nth 13 = .ok (.ireturn, 1) := by decide +kernel
theorem dX6_nth_14 : decode cX6_nth 14 = .ok (.iconst 0, 1) := by decide +kernel
theorem dX6_nth_15 : decode cX6_nth 15 = .ok (.istore_n 2, 1) := by decide +kernel
theorem dX6_nth_16 : decode cX6_nth 16 = .ok (.iconst 0, 1) := by decide +kernel
theorem dX6_nth_17 : decode cX6_nth 17 = .ok (.istore_n 3, 1) := by decide +kernel
theorem dX6_nth_18 : decode cX6_nth 18 = .ok (.iconst 0, 1) := by decide +kernel
theorem dX6_nth_19 : decode cX6_nth 19 = .ok (.istore 4, 2) := by decide +kernel
theorem dX6_nth_21 : decode cX6_nth 21 = .ok (.iload 4, 2) := by decide +kernel
theorem dX6_nth_23 : decode cX6_nth 23 = .ok (.iload_n 1, 1) := by decide +kernel
theorem dX6_nth_24 : decode cX6_nth 24 = .ok (.if_icmp .gt 21, 3) := by decide +kernel
theorem dX6_nth_27 : decode cX6_nth 27 = .ok (.aload_n 0, 1) := by decide +kernel
theorem dX6_nth_28 : decode cX6_nth 28 = .ok (.iload_n 2, 1) := by decide +kernel
theorem dX6_nth_29 : decode cX6_nth 29 = .ok (.invokevirtual 85, 3) := by decide +kernel
theorem dX6_nth_32 : decode cX6_nth 32 = .ok (.istore_n 3, 1) := by decide +kernel
theorem dX6_nth_33 : decode cX6_nth 33 = .ok (.iload_n 2, 1) := by decide +kernel
theorem dX6_nth_34 : decode cX6_nth 34 = .ok (.iconst 1, 1) := by decide +kernel
theorem dX6_nth_35 : decode cX6_nth 35 = .ok (.iload_n 3, 1) := by decide +kernel
theorem dX6_nth_36 : decode cX6_nth 36 = .ok (.ishl, 1) := by decide +kernel
theorem dX6_nth_37 : decode cX6_nth 37 = .ok (.ior, 1) := by decide +kernel
theorem dX6_nth_38 : decode cX6_nth 38 = .ok (.istore_n 2, 1) := by decide +kernel
theorem dX6_nth_39 : decode cX6_nth 39 = .ok (.iinc 4 1, 3) := by decide +kernel
theorem dX6_nth_42 : decode cX6_nth 42 = .ok (.goto (-21), 3) := by decide +kernel
theorem dX6_nth_45 : decode cX6_nth 45 = .ok (.aload_n 0, 1) := by decide +kernel
theorem dX6_nth_46 : decode cX6_nth 46 = .ok (.getfield 11, 3) := by decide +kernel
theorem dX6_nth_49 : decode cX6_nth 49 = .ok (.iload_n 3, 1) := by decide +kernel
theorem dX6_nth_50 : decode cX6_nth 50 = .ok (.iaload, 1) := by decide +kernel
theorem dX6_nth_51 : decode cX6_nth 51 = .ok (.ireturn, 1) := by decide +kernel
theorem dX6_firstOfBest_0 : decode cX6_firstOfBest 0 = .ok (.iconst 0, 1) := by decide +kernel
theorem dX6_firstOfBest_1 : decode cX6_firstOfBest 1 = .ok (.istore_n 2, 1) := by decide +kernel
theorem dX6_firstOfBest_2 : decode cX6_firstOfBest 2 = .ok (.iload_n 2, 1) := by decide +kernel
theorem dX6_firstOfBest_3 : decode cX6_firstOfBest 3 = .ok (.aload_n 0, 1) := by decide +kernel
theorem dX6_firstOfBest_4 : decode cX6_firstOfBest 4 = .ok (.getfield 23, 3) := by decide +kernel
theorem dX6_firstOfBest_7 : decode cX6_firstOfBest 7 = .ok (.if_icmp .ge 34, 3) := by decide +kernel
theorem dX6_firstOfBest_10 : decode cX6_firstOfBest 10 = .ok (.iload_n 1, 1) := by decide +kernel
theorem dX6_firstOfBest_11 : decode cX6_firstOfBest 11 = .ok (.iload_n 2, 1) := by decide +kernel
theorem dX6_firstOfBest_12 : decode cX6_firstOfBest 12 = .ok (.ishr, 1) := by decide +kernel
theorem dX6_firstOfBest_13 : decode cX6_firstOfBest 13 = .ok (.iconst 1, 1) := by decide +kernel
theorem dX6_firstOfBest_14 : decode cX6_firstOfBest 14 = .ok (.iand, 1) := by decide +kernel
theorem dX6_firstOfBest_15 : decode cX6_firstOfBest 15 = .ok (.ifCond .ne 20, 3) := by decide +kernel
theorem dX6_firstOfBest_18 : decode cX6_firstOfBest 18 = .ok (.aload_n 0, 1) := by decide +kernel
theorem dX6_firstOfBest_19 : decode cX6_firstOfBest 19 = .ok (.iload_n 1, 1) := by decide +kernel
theorem dX6_firstOfBest_20 : decode cX6_firstOfBest 20 = .ok (.iload_n 2, 1) := by decide +kernel
theorem dX6_firstOfBest_21 : decode cX6_firstOfBest 21 = .ok (.invokevirtual 77, 3) := by decide +kernel
theorem dX6_firstOfBest_24 : decode cX6_firstOfBest 24 = .ok (.aload_n 0, 1) := by decide +kernel
theorem dX6_firstOfBest_25 : decode cX6_firstOfBest 25 = .ok (.getfield 20, 3) := by decide +kernel
theorem dX6_firstOfBest_28 : decode cX6_firstOfBest 28 = .ok (.iload_n 1, 1) := by decide +kernel
theorem dX6_firstOfBest_29 : decode cX6_firstOfBest 29 = .ok (.iaload, 1) := by decide +kernel
theorem dX6_firstOfBest_30 : decode cX6_firstOfBest 30 = .ok (.if_icmp .ne 5, 3) := by decide +kernel
theorem dX6_firstOfBest_33 : decode cX6_firstOfBest 33 = .ok (.iload_n 2, 1) := by decide +kernel
theorem dX6_firstOfBest_34 : decode cX6_firstOfBest 34 = .ok (.ireturn, 1) := by decide +kernel
theorem dX6_firstOfBest_35 : decode cX6_firstOfBest 35 = .ok (.iinc 2 1, 3) := by decide +kernel
theorem dX6_firstOfBest_38 : decode cX6_firstOfBest 38 = .ok (.goto (-36), 3) := by decide +kernel
theorem dX6_firstOfBest_41 : decode cX6_firstOfBest 41 = .ok (.iconst 0, 1) := by decide +kernel
theorem dX6_firstOfBest_42 : decode cX6_firstOfBest 42 = .ok (.ireturn, 1) := by decide +kernel
theorem dX7_init_0 : decode cX7_init 0 = .ok (.aload_n 0, 1) := by decide +kernel
theorem dX7_init_1 : decode cX7_init 1 = .ok (.invokespecial 3, 3) := by decide +kernel
theorem dX7_init_4 : decode cX7_init 4 = .ok (.aload_n 0, 1) := by decide +kernel
theorem dX7_init_5 : decode cX7_init 5 = .ok (.bipush 10, 2) := by decide +kernel
theorem dX7_init_7 : decode cX7_init 7 = .ok (.newarray .int, 2) := by decide +kernel
theorem dX7_init_9 : decode cX7_init 9 = .ok (.putfield 9, 3) := by decide +kernel
theorem dX7_init_12 : decode cX7_init 12 = .ok (.aload_n 0, 1) := by decide +kernel
theorem dX7_init_13 : decode cX7_init 13 = .ok (.bipush 10, 2) := by decide +kernel
theorem dX7_init_15 : decode cX7_init 15 = .ok (.newarray .int, 2) := by decide +kernel
theorem dX7_init_17 : decode cX7_init 17 = .ok (.putfield 15, 3) := by decide +kernel
theorem dX7_init_20 : decode cX7_init 20 = .ok (.aload_n 0, 1) := by decide +kernel
theorem dX7_init_21 : decode cX7_init 21 = .ok (.bipush 10, 2) := by decide +kernel
theorem dX7_init_23 : decode cX7_init 23 = .ok (.newarray .int, 2) := by decide +kernel
theorem dX7_init_25 : decode cX7_init 25 = .ok (.putfield 18, 3) := by decide +kernel
theorem dX7_init_28 : decode cX7_init 28 = .ok (.aload_n 0, 1) := by decide +kernel
theorem dX7_init_29 : decode cX7_init 29 = .ok (.bipush 10, 2) := by decide +kernel
theorem dX7_init_31 : decode cX7_init 31 = .ok (.newarray .int, 2) := by decide +kernel
theorem dX7_init_33 : decode cX7_init 33 = .ok (.putfield 21, 3) := by decide +kernel
theorem dX7_init_36 : decode cX7_init 36 = .ok (.return_, 1) := by decide +kernel
theorem dX7_add_0 : decode cX7_add 0 = .ok (.aload_n 0, 1) := by decide +kernel
theorem dX7_add_1 : decode cX7_add 1 = .ok (.getfield 24, 3) := by decide +kernel
theorem dX7_add_4 : decode cX7_add 4 = .ok (.bipush 10, 2) := by decide +kernel
theorem dX7_add_6 : decode cX7_add 6 = .ok (.if_icmp .ge 54, 3) := by decide +kernel
theorem dX7_add_9 : decode cX7_add 9 = .ok (.aload_n 0, 1) := by decide +kernel
theorem dX7_add_10 : decode cX7_add 10 = .ok (.getfield 9, 3) := by decide +kernel
theorem dX7_add_13 : decode cX7_add 13 = .ok (.aload_n 0, 1) := by decide +kernel
theorem dX7_add_14 : decode cX7_add 14 = .ok (.getfield 24, 3) := by decide +kernel
theorem dX7_add_17 : decode cX7_add 17 = .ok (.iload_n 1, 1) := by decide +kernel
theorem dX7_add_18 : decode cX7_add 18 = .ok (.iastore, 1) := by decide +kernel
theorem dX7_add_19 : decode cX7_add 19 = .ok (.aload_n 0, 1) := by decide +kernel
theorem dX7_add_20 : decode cX7_add 20 = .ok (.getfield 15, 3) := by decide +kernel
theorem dX7_add_23 : decode cX7_add 23 = .ok (.aload_n 0, 1) := by decide +kernel
theorem dX7_add_24 : decode cX7_add 24 = .ok (.getfield 24, 3) := by decide +kernel
theorem dX7_add_27 : decode cX7_add 27 = .ok (.iload_n 2, 1) := by decide +kernel
theorem dX7_add_28 : decode cX7_add 28 = .ok (.iastore, 1) := by decide +kernel
theorem dX7_add_29 : decode cX7_add 29 = .ok (.aload_n 0, 1) := by decide +kernel
theorem dX7_add_30 : decode cX7_add 30 = .ok (.getfield 18, 3) := by decide +kernel
theorem dX7_add_33 : decode cX7_add 33 = .ok (.aload_n 0, 1) := by decide +kernel
theorem dX7_add_34 : decode cX7_add 34 = .ok (.getfield 24, 3) := by decide +kernel
theorem dX7_add_37 : decode cX7_add 37 = .ok (.iload_n 3, 1) := by decide +kernel
theorem dX7_add_38 : decode cX7_add 38 = .ok (.iastore, 1) := by decide +kernel
theorem dX7_add_39 : decode cX7_add 39 = .ok (.aload_n 0, 1) := by decide +kernel
theorem dX7_add_40 : decode cX7_add 40 = .ok (.getfield 21, 3) := by decide +kernel
theorem dX7_add_43 : decode cX7_add 43 = .ok (.aload_n 0, 1) := by decide +kernel
theorem dX7_add_44 : decode cX7_add 44 = .ok (.getfield 24, 3) := by decide +kernel
theorem dX7_add_47 : decode cX7_add 47 = .ok (.iload 4, 2) := by decide +kernel
theorem dX7_add_49 : decode cX7_add 49 = .ok (.iastore, 1) := by decide +kernel
theorem dX7_add_50 : decode cX7_add 50 = .ok (.aload_n 0, 1) := by decide +kernel
theorem dX7_add_51 : decode cX7_add 51 = .ok (.dup, 1) := by decide +kernel
theorem dX7_add_52 : decode cX7_add 52 = .ok (.getfield 24, 3) := by decide +kernel
theorem dX7_add_55 : decode cX7_add 55 = .ok (.iconst 1, 1) := by decide +kernel
theorem dX7_add_56 : decode cX7_add 56 = .ok (.iadd, 1) := by decide +kernel
theorem dX7_add_57 : decode cX7_add 57 = .ok (.putfield 24, 3) := by decide +kernel
theorem dX7_add_60 : decode cX7_add 60 = .ok (.return_, 1) := by decide +kernel
theorem dX7_isOf_0 : decode cX7_isOf 0 = .ok (.iload_n 2, 1) := by decide +kernel
theorem dX7_isOf_1 : decode cX7_isOf 1 = .ok (.ifCond .lt 25, 3) := by decide +kernel
theorem dX7_isOf_4 : decode cX7_isOf 4 = .ok (.iload_n 2, 1) := by decide +kernel
theorem dX7_isOf_5 : decode cX7_isOf 5 = .ok (.aload_n 0, 1) := by decide +kernel
theorem dX7_isOf_6 : decode cX7_isOf 6 = .ok (.getfield 24, 3) := by decide +kernel
theorem dX7_isOf_9 : decode cX7_isOf 9 = .ok (.if_icmp .ge 17, 3) := by decide +kernel
theorem dX7_isOf_12 : decode cX7_isOf 12 = .ok (.aload_n 0, 1) := by decide +kernel
theorem dX7_isOf_13 : decode cX7_isOf 13 = .ok (.getfield 9, 3) := by decide +kernel
theorem dX7_isOf_16 : decode cX7_isOf 16 = .ok (.iload_n 2, 1) := by decide +kernel
theorem dX7_isOf_17 : decode cX7_isOf 17 = .ok (.iaload, 1) := by decide +kernel
theorem dX7_isOf_18 : decode cX7_isOf 18 = .ok (.iload_n 1, 1) := by decide +kernel
theorem dX7_isOf_19 : decode cX7_isOf 19 = .ok (.if_icmp .ne 7, 3) := by decide +kernel
theorem dX7_isOf_22 : decode cX7_isOf 22 = .ok (.iconst 1, 1) := by decide +kernel
theorem dX7_isOf_23 : decode cX7_isOf 23 = .ok (.goto 4, 3) := by decide +kernel
theorem dX7_isOf_26 : decode cX7_isOf 26 = .ok (.iconst 0, 1) := by decide +kernel
theorem dX7_isOf_27 : decode cX7_isOf 27 = .ok (.ireturn, 1) := by decide +kernel
theorem dX7_countOf_0 : decode cX7_countOf 0 = .ok (.iconst 0, 1) := by decide +kernel
theorem dX7_countOf_1 : decode cX7_countOf 1 = .ok (.istore_n 2, 1) := by decide +kernel
theorem dX7_countOf_2 : decode cX7_countOf 2 = .ok (.iconst 0, 1) := by decide +kernel
theorem dX7_countOf_3 : decode cX7_countOf 3 = .ok (.istore_n 3, 1) := by decide +kernel
theorem dX7_countOf_4 : decode cX7_countOf 4 = .ok (.iload_n 3, 1) := by decide +kernel
theorem dX7_countOf_5 : decode cX7_countOf 5 = .ok (.aload_n 0, 1) := by decide +kernel
theorem dX7_countOf_6 : decode cX7_countOf 6 = .ok (.getfield 24, 3) := by decide +kernel
theorem dX7_countOf_9 : decode cX7_countOf 9 = .ok (.if_icmp .ge 22, 3) := by decide +kernel
theorem dX7_countOf_12 : decode cX7_countOf 12 = .ok (.aload_n 0, 1) := by decide +kernel
theorem dX7_countOf_13 : decode cX7_countOf 13 = .ok (.getfield 9, 3) := by decide +kernel
theorem dX7_countOf_16 : decode cX7_countOf 16 = .ok (.iload_n 3, 1) := by decide +kernel
theorem dX7_countOf_17 : decode cX7_countOf 17 = .ok (.iaload, 1) := by decide +kernel
theorem dX7_countOf_18 : decode cX7_countOf 18 = .ok (.iload_n 1, 1) := by decide +kernel
theorem dX7_countOf_19 : decode cX7_countOf 19 = .ok (.if_icmp .ne 6, 3) := by decide +kernel
theorem dX7_countOf_22 : decode cX7_countOf 22 = .ok (.iinc 2 1, 3) := by decide +kernel
theorem dX7_countOf_25 : decode cX7_countOf 25 = .ok (.iinc 3 1, 3) := by decide +kernel
theorem dX7_countOf_28 : decode cX7_countOf 28 = .ok (.goto (-24), 3) := by decide +kernel
theorem dX7_countOf_31 : decode cX7_countOf 31 = .ok (.iload_n 2, 1) := by decide +kernel
theorem dX7_countOf_32 : decode cX7_countOf 32 = .ok (.ireturn, 1) := by decide +kernel
theorem dX7_nthOf_0 : decode cX7_nthOf 0 = .ok (.iconst 0, 1) := by decide +kernel
theorem dX7_nthOf_1 : decode cX7_nthOf 1 = .ok (.istore_n 3, 1) := by decide +kernel
theorem dX7_nthOf_2 : decode cX7_nthOf 2 = .ok (.iconst 0, 1) := by decide +kernel
theorem dX7_nthOf_3 : decode cX7_nthOf 3 = .ok (.istore 4, 2) := by decide +kernel
theorem dX7_nthOf_5 : decode cX7_nthOf 5 = .ok (.iload 4, 2) := by decide +kernel
theorem dX7_nthOf_7 : decode cX7_nthOf 7 = .ok (.aload_n 0, 1) := by decide +kernel
theorem dX7_nthOf_8 : decode cX7_nthOf 8 = .ok (.getfield 24, 3) := by decide +kernel
theorem dX7_nthOf_11 : decode cX7_nthOf 11 = .ok (.if_icmp .ge 31, 3) := by decide +kernel
theorem dX7_nthOf_14 : decode cX7_nthOf 14 = .ok (.aload_n 0, 1) := by decide +kernel
theorem dX7_nthOf_15 : decode cX7_nthOf 15 = .ok (.getfield 9, 3) := by decide +kernel
theorem dX7_nthOf_18 : decode cX7_nthOf 18 = .ok (.iload 4, 2) := by decide +kernel
theorem dX7_nthOf_20 : decode cX7_nthOf 20 = .ok (.iaload, 1) := by decide +kernel
theorem dX7_nthOf_21 : decode cX7_nthOf 21 = .ok (.iload_n 1, 1) := by decide +kernel
theorem dX7_nthOf_22 : decode cX7_nthOf 22 = .ok (.if_icmp .ne 14, 3) := by decide +kernel
theorem dX7_nthOf_25 : decode cX7_nthOf 25 = .ok (.iload_n 3, 1) := by decide +kernel
theorem dX7_nthOf_26 : decode cX7_nthOf 26 = .ok (.iload_n 2, 1) := by decide +kernel
theorem dX7_nthOf_27 : decode cX7_nthOf 27 = .ok (.if_icmp .ne 6, 3) := by decide +kernel
theorem dX7_nthOf_30 : decode cX7_nthOf 30 = .ok (.iload 4, 2) := by decide +kernel
theorem dX7_nthOf_32 : decode cX7_nthOf 32 = .ok (.ireturn, 1) := by decide +kernel
theorem dX7_nthOf_33 : decode cX7_nthOf 33 = .ok (.iinc 3 1, 3) := by decide +kernel
theorem dX7_nthOf_36 : decode cX7_nthOf 36 = .ok (.iinc 4 1, 3) := by decide +kernel
theorem dX7_nthOf_39 : decode cX7_nthOf 39 = .ok (.goto (-34), 3) := by decide +kernel
theorem dX7_nthOf_42 : decode cX7_nthOf 42 = .ok (.iconst 0, 1) := by decide +kernel
theorem dX7_nthOf_43 : decode cX7_nthOf 43 = .ok (.ireturn, 1) := by decide +kernel
theorem dX7_weightOfSide_0 : decode cX7_weightOfSide 0 = .ok (.iconst 0, 1) := by decide +kernel
theorem dX7_weightOfSide_1 : decode cX7_weightOfSide 1 = .ok (.istore_n 2, 1) := by decide +kernel
theorem dX7_weightOfSide_2 : decode cX7_weightOfSide 2 = .ok (.iconst 0, 1) := by decide +kernel
theorem dX7_weightOfSide_3 : decode cX7_weightOfSide 3 = .ok (.istore_n 3, 1) := by decide +kernel
theorem dX7_weightOfSide_4 : decode cX7_weightOfSide 4 = .ok (.iload_n 3, 1) := by decide +kernel
theorem dX7_weightOfSide_5 : decode cX7_weightOfSide 5 = .ok (.aload_n 0, 1) := by decide +kernel
theorem dX7_weightOfSide_6 : decode cX7_weightOfSide 6 = .ok (.getfield 24, 3) := by decide +kernel
theorem dX7_weightOfSide_9 : decode cX7_weightOfSide 9 = .ok (.if_icmp .ge 28, 3) := by decide +kernel
theorem dX7_weightOfSide_12 : decode cX7_weightOfSide 12 = .ok (.aload_n 0, 1) := by decide +kernel
theorem dX7_weightOfSide_13 : decode cX7_weightOfSide 13 = .ok (.getfield 9, 3) := by decide +kernel
theorem dX7_weightOfSide_16 : decode cX7_weightOfSide 16 = .ok (.iload_n 3, 1) := by decide +kernel
theorem dX7_weightOfSide_17 : decode cX7_weightOfSide 17 = .ok (.iaload, 1) := by decide +kernel
theorem dX7_weightOfSide_18 : decode cX7_weightOfSide 18 = .ok (.iload_n 1, 1) := by decide +kernel
theorem dX7_weightOfSide_19 : decode cX7_weightOfSide 19 = .ok (.if_icmp .ne 12, 3) := by decide +kernel
theorem dX7_weightOfSide_22 : decode cX7_weightOfSide 22 = .ok (.iload_n 2, 1) := by decide +kernel
theorem dX7_weightOfSide_23 : decode cX7_weightOfSide 23 = .ok (.aload_n 0, 1) := by decide +kernel
theorem dX7_weightOfSide_24 : decode cX7_weightOfSide 24 = .ok (.getfield 18, 3) := by decide +kernel
theorem dX7_weightOfSide_27 : decode cX7_weightOfSide 27 = .ok (.iload_n 3, 1) := by decide +kernel
theorem dX7_weightOfSide_28 : decode cX7_weightOfSide 28 = .ok (.iaload, 1) := by decide +kernel
theorem dX7_weightOfSide_29 : decode cX7_weightOfSide 29 = .ok (.iadd, 1) := by decide +kernel
theorem dX7_weightOfSide_30 : decode cX7_weightOfSide 30 = .ok (.istore_n 2, 1) := by decide +kernel
theorem dX7_weightOfSide_31 : decode cX7_weightOfSide 31 = .ok (.iinc 3 1, 3) := by decide +kernel
theorem dX7_weightOfSide_34 : decode cX7_weightOfSide 34 = .ok (.goto (-30), 3) := by decide +kernel
theorem dX7_weightOfSide_37 : decode cX7_weightOfSide 37 = .ok (.iload_n 2, 1) := by decide +kernel
theorem dX7_weightOfSide_38 : decode cX7_weightOfSide 38 = .ok (.ireturn, 1) := by decide +kernel
theorem dX7_differenceBy_0 : decode cX7_differenceBy 0 = .ok (.iconst 0, 1) := by decide +kernel
theorem dX7_differenceBy_1 : decode cX7_differenceBy 1 = .ok (.istore_n 2, 1) := by decide +kernel
theorem dX7_differenceBy_2 : decode cX7_differenceBy 2 = .ok (.iconst 0, 1) := by decide +kernel
theorem dX7_differenceBy_3 : decode cX7_differenceBy 3 = .ok (.istore_n 3, 1) := by decide +kernel
theorem dX7_differenceBy_4 : decode cX7_differenceBy 4 = .ok (.iload_n 3, 1) := by decide +kernel
theorem dX7_differenceBy_5 : decode cX7_differenceBy 5 = .ok (.aload_n 0, 1) := by decide +kernel
theorem dX7_differenceBy_6 : decode cX7_differenceBy 6 = .ok (.getfield 24, 3) := by decide +kernel
theorem dX7_differenceBy_9 : decode cX7_differenceBy 9 = .ok (.if_icmp .ge 37, 3) := by decide +kernel
theorem dX7_differenceBy_12 : decode cX7_differenceBy 12 = .ok (.iload_n 2, 1) := by decide +kernel
theorem dX7_differenceBy_13 : decode cX7_differenceBy 13 = .ok (.iload_n 1, 1) := by decide +kernel
theorem dX7_differenceBy_14 : decode cX7_differenceBy 14 = .ok (.iload_n 3, 1) := by decide +kernel
theorem dX7_differenceBy_15 : decode cX7_differenceBy 15 = .ok (.ishr, 1) := by decide +kernel
theorem dX7_differenceBy_16 : decode cX7_differenceBy 16 = .ok (.iconst 1, 1) := by decide +kernel
theorem dX7_differenceBy_17 : decode cX7_differenceBy 17 = .ok (.iand, 1) := by decide +kernel
theorem dX7_differenceBy_18 : decode cX7_differenceBy 18 = .ok (.iconst 1, 1) := by decide +kernel
theorem dX7_differenceBy_19 : decode cX7_differenceBy 19 = .ok (.if_icmp .ne 12, 3) := by decide +kernel
theorem dX7_differenceBy_22 : decode cX7_differenceBy 22 = .ok (.aload_n 0, 1) := by decide +kernel
theorem dX7_differenceBy_23 : decode cX7_differenceBy 23 = .ok (.getfield 18, 3) := by decide +kernel
theorem dX7_differenceBy_26 : decode cX7_differenceBy 26 = .ok (.iload_n 3, 1) := by decide +kernel
theorem dX7_differenceBy_27 : decode cX7_differenceBy 27 = .ok (.iaload, 1) := by decide +kernel
theorem dX7_differenceBy_28 : decode cX7_differenceBy 28 = .ok (.goto 10, 3) := by decide +kernel
theorem dX7_differenceBy_31 : decode cX7_differenceBy 31 = .ok (.aload_n 0, 1) := by decide +kernel
theorem dX7_differenceBy_32 : decode cX7_differenceBy 32 = .ok (.getfield 18, 3) := by decide +kernel
theorem dX7_differenceBy_35 : decode cX7_differenceBy 35 = .ok (.iload_n 3, 1) := by decide +kernel
theorem dX7_differenceBy_36 : decode cX7_differenceBy 36 = .ok (.iaload, 1) := by decide +kernel
theorem dX7_differenceBy_37 : decode cX7_differenceBy 37 = .ok (.ineg, 1) := by decide +kernel
theorem dX7_differenceBy_38 : decode cX7_differenceBy 38 = .ok (.iadd, 1) := by decide +kernel
theorem dX7_differenceBy_39 : decode cX7_differenceBy 39 = .ok (.istore_n 2, 1) := by decide +kernel
theorem dX7_differenceBy_40 : decode cX7_differenceBy 40 = .ok (.iinc 3 1, 3) := by decide +kernel
theorem dX7_differenceBy_43 : decode cX7_differenceBy 43 = .ok (.goto (-39), 3) := by decide +kernel
theorem dX7_differenceBy_46 : decode cX7_differenceBy 46 = .ok (.iload_n 2, 1) := by decide +kernel
theorem dX7_differenceBy_47 : decode cX7_differenceBy 47 = .ok (.invokestatic 28, 3) := by decide +kernel
theorem dX7_differenceBy_50 : decode cX7_differenceBy 50 = .ok (.ireturn, 1) := by decide +kernel
theorem dX7_fairestHalf_0 : decode cX7_fairestHalf 0 = .ok (.iconst (-1), 1) := by decide +kernel
theorem dX7_fairestHalf_1 : decode cX7_fairestHalf 1 = .ok (.istore_n 1, 1) := by decide +kernel
theorem dX7_fairestHalf_2 : decode cX7_fairestHalf 2 = .ok (.iconst 0, 1) := by decide +kernel
theorem dX7_fairestHalf_3 : decode cX7_fairestHalf 3 = .ok (.istore_n 2, 1) := by decide +kernel
theorem dX7_fairestHalf_4 : decode cX7_fairestHalf 4 = .ok (.iconst 0, 1) := by decide +kernel
theorem dX7_fairestHalf_5 : decode cX7_fairestHalf 5 = .ok (.istore_n 3, 1) := by decide +kernel
theorem dX7_fairestHalf_6 : decode cX7_fairestHalf 6 = .ok (.iload_n 3, 1) := by decide +kernel
theorem dX7_fairestHalf_7 : decode cX7_fairestHalf 7 = .ok (.iconst 1, 1) := by decide +kernel
theorem dX7_fairestHalf_8 : decode cX7_fairestHalf 8 = .ok (.aload_n 0, 1) := by decide +kernel
theorem dX7_fairestHalf_9 : decode cX7_fairestHalf 9 = .ok (.getfield 24, 3) := by decide +kernel
theorem dX7_fairestHalf_12 : decode cX7_fairestHalf 12 = .ok (.ishl, 1) := by decide +kernel
theorem dX7_fairestHalf_13 : decode cX7_fairestHalf 13 = .ok (.if_icmp .ge 47, 3) := by decide +kernel
theorem dX7_fairestHalf_16 : decode cX7_fairestHalf 16 = .ok (.iload_n 3, 1) := by decide +kernel
theorem dX7_fairestHalf_17 : decode cX7_fairestHalf 17 = .ok (.invokestatic 34, 3) := by decide +kernel
theorem dX7_fairestHalf_20 : decode cX7_fairestHalf 20 = .ok (.aload_n 0, 1) := by decide +kernel
theorem dX7_fairestHalf_21 : decode cX7_fairestHalf 21 = .ok (.getfield 24, 3) := by decide +kernel
theorem dX7_fairestHalf_24 : decode cX7_fairestHalf 24 = .ok (.iconst 1, 1) := by decide +kernel
theorem dX7_fairestHalf_25 : decode cX7_fairestHalf 25 = .ok (.iadd, 1) := by decide +kernel
theorem dX7_fairestHalf_26 : decode cX7_fairestHalf 26 = .ok (.iconst 2, 1) := by decide +kernel
theorem dX7_fairestHalf_27 : decode cX7_fairestHalf 27 = .ok (.idiv, 1) := by decide +kernel
theorem dX7_fairestHalf_28 : decode cX7_fairestHalf 28 = .ok (.if_icmp .ne 26, 3) := by decide +kernel
theorem dX7_fairestHalf_31 : decode cX7_fairestHalf 31 = .ok (.aload_n 0, 1) := by decide +kernel
theorem dX7_fairestHalf_32 : decode cX7_fairestHalf 32 = .ok (.iload_n 3, 1) := by decide +kernel
theorem dX7_fairestHalf_33 : decode cX7_fairestHalf 33 = .ok (.invokevirtual 39, 3) := by decide +kernel
theorem dX7_fairestHalf_36 : decode cX7_fairestHalf 36 = .ok (.istore 4, 2) := by decide +kernel
theorem dX7_fairestHalf_38 : decode cX7_fairestHalf 38 = .ok (.iload_n 1, 1) := by decide +kernel
theorem dX7_fairestHalf_39 : decode cX7_fairestHalf 39 = .ok (.iconst (-1), 1) := by decide +kernel
theorem dX7_fairestHalf_40 : decode cX7_fairestHalf 40 = .ok (.if_icmp .eq 9, 3) := by decide +kernel
theorem dX7_fairestHalf_43 : decode cX7_fairestHalf 43 = .ok (.iload 4, 2) := by decide +kernel
theorem dX7_fairestHalf_45 : decode cX7_fairestHalf 45 = .ok (.iload_n 2, 1) := by decide +kernel
theorem dX7_fairestHalf_46 : decode cX7_fairestHalf 46 = .ok (.if_icmp .ge 8, 3) := by decide +kernel
theorem dX7_fairestHalf_49 : decode cX7_fairestHalf 49 = .ok (.iload_n 3, 1) := by decide +kernel
theorem dX7_fairestHalf_50 : decode cX7_fairestHalf 50 = .ok (.istore_n 1, 1) := by decide +kernel
theorem dX7_fairestHalf_51 : decode cX7_fairestHalf 51 = .ok (.iload 4, 2) := by decide +kernel
theorem dX7_fairestHalf_53 : decode cX7_fairestHalf 53 = .ok (.istore_n 2, 1) := by decide +kernel
theorem dX7_fairestHalf_54 : decode cX7_fairestHalf 54 = .ok (.iinc 3 1, 3) := by decide +kernel
theorem dX7_fairestHalf_57 : decode cX7_fairestHalf 57 = .ok (.goto (-51), 3) := by decide +kernel
theorem dX7_fairestHalf_60 : decode cX7_fairestHalf 60 = .ok (.iload_n 1, 1) := by decide +kernel
theorem dX7_fairestHalf_61 : decode cX7_fairestHalf 61 = .ok (.ireturn, 1) := by decide +kernel
theorem dX7_oddsOfNoCough_0 : decode cX7_oddsOfNoCough 0 = .ok (.ldc2_w 42, 3) := by decide +kernel
theorem dX7_oddsOfNoCough_3 : decode cX7_oddsOfNoCough 3 = .ok (.lstore_n 2, 1) := by decide +kernel
theorem dX7_oddsOfNoCough_4 : decode cX7_oddsOfNoCough 4 = .ok (.iconst 0, 1) := by decide +kernel
theorem dX7_oddsOfNoCough_5 : decode cX7_oddsOfNoCough 5 = .ok (.istore 4, 2) := by decide +kernel
theorem dX7_oddsOfNoCough_7 : decode cX7_oddsOfNoCough 7 = .ok (.iload 4, 2) := by decide +kernel
theorem dX7_oddsOfNoCough_9 : decode cX7_oddsOfNoCough 9 = .ok (.aload_n 0, 1) := by decide +kernel
theorem dX7_oddsOfNoCough_10 : decode cX7_oddsOfNoCough 10 = .ok (.getfield 24, 3) := by decide +kernel
theorem dX7_oddsOfNoCough_13 : decode cX7_oddsOfNoCough 13 = .ok (.if_icmp .ge 37, 3) := by decide +kernel
theorem dX7_oddsOfNoCough_16 : decode cX7_oddsOfNoCough 16 = .ok (.iload_n 1, 1) := by decide +kernel
theorem dX7_oddsOfNoCough_17 : decode cX7_oddsOfNoCough 17 = .ok (.iload 4, 2) := by decide +kernel
theorem dX7_oddsOfNoCough_19 : decode cX7_oddsOfNoCough 19 = .ok (.ishr, 1) := by decide +kernel
theorem dX7_oddsOfNoCough_20 : decode cX7_oddsOfNoCough 20 = .ok (.iconst 1, 1) := by decide +kernel
theorem dX7_oddsOfNoCough_21 : decode cX7_oddsOfNoCough 21 = .ok (.iand, 1) := by decide +kernel
theorem dX7_oddsOfNoCough_22 : decode cX7_oddsOfNoCough 22 = .ok (.iconst 1, 1) := by decide +kernel
theorem dX7_oddsOfNoCough_23 : decode cX7_oddsOfNoCough 23 = .ok (.if_icmp .ne 21, 3) := by decide +kernel
theorem dX7_oddsOfNoCough_26 : decode cX7_oddsOfNoCough 26 = .ok (.lload_n 2, 1) := by decide +kernel
theorem dX7_oddsOfNoCough_27 : decode cX7_oddsOfNoCough 27 = .ok (.bipush 100, 2) := by decide +kernel
theorem dX7_oddsOfNoCough_29 : decode cX7_oddsOfNoCough 29 = .ok (.aload_n 0, 1) := by decide +kernel
theorem dX7_oddsOfNoCough_30 : decode cX7_oddsOfNoCough 30 = .ok (.getfield 21, 3) := by decide +kernel
theorem dX7_oddsOfNoCough_33 : decode cX7_oddsOfNoCough 33 = .ok (.iload 4, 2) := by decide +kernel
theorem dX7_oddsOfNoCough_35 : decode cX7_oddsOfNoCough 35 = .ok (.iaload, 1) := by decide +kernel
theorem dX7_oddsOfNoCough_36 : decode cX7_oddsOfNoCough 36 = .ok (.isub, 1) := by decide +kernel
theorem dX7_oddsOfNoCough_37 : decode cX7_oddsOfNoCough 37 = .ok (.i2l, 1) := by decide +kernel
theorem dX7_oddsOfNoCough_38 : decode cX7_oddsOfNoCough 38 = .ok (.lmul, 1) := by decide +kernel
theorem dX7_oddsOfNoCough_39 : decode cX7_oddsOfNoCough 39 = .ok (.ldc2_w 44, 3) := by decide +kernel
theorem dX7_oddsOfNoCough_42 : decode cX7_oddsOfNoCough 42 = .ok (.ldiv, 1) := by decide +kernel
theorem dX7_oddsOfNoCough_43 : decode cX7_oddsOfNoCough 43 = .ok (.lstore_n 2, 1) := by decide +kernel
theorem dX7_oddsOfNoCough_44 : decode cX7_oddsOfNoCough 44 = .ok (.iinc 4 1, 3) := by decide +kernel
theorem dX7_oddsOfNoCough_47 : decode cX7_oddsOfNoCough 47 = .ok (.goto (-40), 3) := by decide +kernel
theorem dX7_oddsOfNoCough_50 : decode cX7_oddsOfNoCough 50 = .ok (.lload_n 2, 1) := by decide +kernel
theorem dX7_oddsOfNoCough_51 : decode cX7_oddsOfNoCough 51 = .ok (.l2i, 1) := by decide +kernel
theorem dX7_oddsOfNoCough_52 : decode cX7_oddsOfNoCough 52 = .ok (.ireturn, 1) := by decide +kernel
theorem dX7_leastWorth_0 : decode cX7_leastWorth 0 = .ok (.iconst (-1), 1) := by decide +kernel
theorem dX7_leastWorth_1 : decode cX7_leastWorth 1 = .ok (.istore_n 2, 1) := by decide +kernel
theorem dX7_leastWorth_2 : decode cX7_leastWorth 2 = .ok (.iconst 0, 1) := by decide +kernel
theorem dX7_leastWorth_3 : decode cX7_leastWorth 3 = .ok (.istore_n 3, 1) := by decide +kernel
theorem dX7_leastWorth_4 : decode cX7_leastWorth 4 = .ok (.iconst 0, 1) := by decide +kernel
theorem dX7_leastWorth_5 : decode cX7_leastWorth 5 = .ok (.istore 4, 2) := by decide +kernel
theorem dX7_leastWorth_7 : decode cX7_leastWorth 7 = .ok (.iload 4, 2) := by decide +kernel
theorem dX7_leastWorth_9 : decode cX7_leastWorth 9 = .ok (.aload_n 0, 1) := by decide +kernel
theorem dX7_leastWorth_10 : decode cX7_leastWorth 10 = .ok (.getfield 24, 3) := by decide +kernel
theorem dX7_leastWorth_13 : decode cX7_leastWorth 13 = .ok (.if_icmp .ge 57, 3) := by decide +kernel
theorem dX7_leastWorth_16 : decode cX7_leastWorth 16 = .ok (.aload_n 0, 1) := by decide +kernel
theorem dX7_leastWorth_17 : decode cX7_leastWorth 17 = .ok (.getfield 18, 3) := by decide +kernel
theorem dX7_leastWorth_20 : decode cX7_leastWorth 20 = .ok (.iload 4, 2) := by decide +kernel
theorem dX7_leastWorth_22 : decode cX7_leastWorth 22 = .ok (.iaload, 1) := by decide +kernel
theorem dX7_leastWorth_23 : decode cX7_leastWorth 23 = .ok (.bipush 100, 2) := by decide +kernel
theorem dX7_leastWorth_25 : decode cX7_leastWorth 25 = .ok (.aload_n 0, 1) := by decide +kernel
theorem dX7_leastWorth_26 : decode cX7_leastWorth 26 = .ok (.getfield 21, 3) := by decide +kernel
theorem dX7_leastWorth_29 : decode cX7_leastWorth 29 = .ok (.iload 4, 2) := by decide +kernel
theorem dX7_leastWorth_31 : decode cX7_leastWorth 31 = .ok (.iaload, 1) := by decide +kernel
theorem dX7_leastWorth_32 : decode cX7_leastWorth 32 = .ok (.isub, 1) := by decide +kernel
theorem dX7_leastWorth_33 : decode cX7_leastWorth 33 = .ok (.imul, 1) := by decide +kernel
theorem dX7_leastWorth_34 : decode cX7_leastWorth 34 = .ok (.istore 5, 2) := by decide +kernel
theorem dX7_leastWorth_36 : decode cX7_leastWorth 36 = .ok (.aload_n 0, 1) := by decide +kernel
theorem dX7_leastWorth_37 : decode cX7_leastWorth 37 = .ok (.getfield 9, 3) := by decide +kernel
theorem dX7_leastWorth_40 : decode cX7_leastWorth 40 = .ok (.iload 4, 2) := by decide +kernel
theorem dX7_leastWorth_42 : decode cX7_leastWorth 42 = .ok (.iaload, 1) := by decide +kernel
theorem dX7_leastWorth_43 : decode cX7_leastWorth 43 = .ok (.iload_n 1, 1) := by decide +kernel
theorem dX7_leastWorth_44 : decode cX7_leastWorth 44 = .ok (.if_icmp .ne 20, 3) := by decide +kernel
theorem dX7_leastWorth_47 : decode cX7_leastWorth 47 = .ok (.iload_n 2, 1) := by decide +kernel
theorem dX7_leastWorth_48 : decode cX7_leastWorth 48 = .ok (.iconst (-1), 1) := by decide +kernel
theorem dX7_leastWorth_49 : decode cX7_leastWorth 49 = .ok (.if_icmp .eq 9, 3) := by decide +kernel
theorem dX7_leastWorth_52 : decode cX7_leastWorth 52 = .ok (.iload 5, 2) := by decide +kernel
theorem dX7_leastWorth_54 : decode cX7_leastWorth 54 = .ok (.iload_n 3, 1) := by decide +kernel
theorem dX7_leastWorth_55 : decode cX7_leastWorth 55 = .ok (.if_icmp .ge 9, 3) := by decide +kernel
theorem dX7_leastWorth_58 : decode cX7_leastWorth 58 = .ok (.iload 4, 2) := by decide +kernel
theorem dX7_leastWorth_60 : decode cX7_leastWorth 60 = .ok (.istore_n 2, 1) := by decide +kernel
theorem dX7_leastWorth_61 : decode cX7_leastWorth 61 = .ok (.iload 5, 2) := by decide +kernel
theorem dX7_leastWorth_63 : decode cX7_leastWorth 63 = .ok (.istore_n 3, 1) := by decide +kernel
theorem dX7_leastWorth_64 : decode cX7_leastWorth 64 = .ok (.iinc 4 1, 3) := by decide +kernel
theorem dX7_leastWorth_67 : decode cX7_leastWorth 67 = .ok (.goto (-60), 3) := by decide +kernel
theorem dX7_leastWorth_70 : decode cX7_leastWorth 70 = .ok (.iload_n 2, 1) := by decide +kernel
theorem dX7_leastWorth_71 : decode cX7_leastWorth 71 = .ok (.ireturn, 1) := by decide +kernel
theorem dX8_init_0 : decode cX8_init 0 = .ok (.aload_n 0, 1) := by decide +kernel
theorem dX8_init_1 : decode cX8_init 1 = .ok (.invokespecial 3, 3) := by decide +kernel
theorem dX8_init_4 : decode cX8_init 4 = .ok (.aload_n 0, 1) := by decide +kernel
theorem dX8_init_5 : decode cX8_init 5 = .ok (.bipush 10, 2) := by decide +kernel
theorem dX8_init_7 : decode cX8_init 7 = .ok (.newarray .int, 2) := by decide +kernel
theorem dX8_init_9 : decode cX8_init 9 = .ok (.putfield 9, 3) := by decide +kernel
theorem dX8_init_12 : decode cX8_init 12 = .ok (.aload_n 0, 1) := by decide +kernel
theorem dX8_init_13 : decode cX8_init 13 = .ok (.bipush 40, 2) := by decide +kernel
theorem dX8_init_15 : decode cX8_init 15 = .ok (.newarray .int, 2) := by decide +kernel
theorem dX8_init_17 : decode cX8_init 17 = .ok (.putfield 15, 3) := by decide +kernel
theorem dX8_init_20 : decode cX8_init 20 = .ok (.return_, 1) := by decide +kernel
theorem dX8_begin_0 : decode cX8_begin 0 = .ok (.aload_n 1, 1) := by decide +kernel
theorem dX8_begin_1 : decode cX8_begin 1 = .ok (.getfield 18, 3) := by decide +kernel
theorem dX8_begin_4 : decode cX8_begin 4 = .ok (.iconst 0, 1) := by decide +kernel
theorem dX8_begin_5 : decode cX8_begin 5 = .ok (.aload_n 0, 1) := by decide +kernel
theorem dX8_begin_6 : decode cX8_begin 6 = .ok (.getfield 9, 3) := by decide +kernel
theorem dX8_begin_9 : decode cX8_begin 9 = .ok (.iconst 0, 1) := by decide +kernel
theorem dX8_begin_10 : decode cX8_begin 10 = .ok (.bipush 10, 2) := by decide +kernel
theorem dX8_begin_12 : decode cX8_begin 12 = .ok (.invokestatic 21, 3) := by decide +kernel
theorem dX8_begin_15 : decode cX8_begin 15 = .ok (.aload_n 0, 1) := by decide +kernel
theorem dX8_begin_16 : decode cX8_begin 16 = .ok (.iconst 0, 1) := by decide +kernel
theorem dX8_begin_17 : decode cX8_begin 17 = .ok (.putfield 27, 3) := by decide +kernel
theorem dX8_begin_20 : decode cX8_begin 20 = .ok (.aload_n 0, 1) := by decide +kernel
theorem dX8_begin_21 : decode cX8_begin 21 = .ok (.iconst 0, 1) := by decide +kernel
theorem dX8_begin_22 : decode cX8_begin 22 = .ok (.putfield 31, 3) := by decide +kernel
theorem dX8_begin_25 : decode cX8_begin 25 = .ok (.aload_n 0, 1) := by decide +kernel
theorem dX8_begin_26 : decode cX8_begin 26 = .ok (.iconst 0, 1) := by decide +kernel
theorem dX8_begin_27 : decode cX8_begin 27 = .ok (.putfield 34, 3) := by decide +kernel
theorem dX8_begin_30 : decode cX8_begin 30 = .ok (.return_, 1) := by decide +kernel
theorem dX8_copyFrom_0 : decode cX8_copyFrom 0 = .ok (.aload_n 1, 1) := by decide +kernel
theorem dX8_copyFrom_1 : decode cX8_copyFrom 1 = .ok (.getfield 9, 3) := by decide +kernel
theorem dX8_copyFrom_4 : decode cX8_copyFrom 4 = .ok (.iconst 0, 1) := by decide +kernel
theorem dX8_copyFrom_5 : decode cX8_copyFrom 5 = .ok (.aload_n 0, 1) := by decide +kernel
theorem dX8_copyFrom_6 : decode cX8_copyFrom 6 = .ok (.getfield 9, 3) := by decide +kernel
theorem dX8_copyFrom_9 : decode cX8_copyFrom 9 = .ok (.iconst 0, 1) := by decide +kernel
theorem dX8_copyFrom_10 : decode cX8_copyFrom 10 = .ok (.bipush 10, 2) := by decide +kernel
theorem dX8_copyFrom_12 : decode cX8_copyFrom 12 = .ok (.invokestatic 21, 3) := by decide +kernel
theorem dX8_copyFrom_15 : decode cX8_copyFrom 15 = .ok (.aload_n 1, 1) := by decide +kernel
theorem dX8_copyFrom_16 : decode cX8_copyFrom 16 = .ok (.getfield 15, 3) := by decide +kernel
theorem dX8_copyFrom_19 : decode cX8_copyFrom 19 = .ok (.iconst 0, 1) := by decide +kernel
theorem dX8_copyFrom_20 : decode cX8_copyFrom 20 = .ok (.aload_n 0, 1) := by decide +kernel
theorem dX8_copyFrom_21 : decode cX8_copyFrom 21 = .ok (.getfield 15, 3) := by decide +kernel
theorem dX8_copyFrom_24 : decode cX8_copyFrom 24 = .ok (.iconst 0, 1) := by decide +kernel
theorem dX8_copyFrom_25 : decode cX8_copyFrom 25 = .ok (.bipush 40, 2) := by decide +kernel
theorem dX8_copyFrom_27 : decode cX8_copyFrom 27 = .ok (.invokestatic 21, 3) := by decide +kernel
theorem dX8_copyFrom_30 : decode cX8_copyFrom 30 = .ok (.aload_n 0, 1) := by decide +kernel
theorem dX8_copyFrom_31 : decode cX8_copyFrom 31 = .ok (.aload_n 1, 1) := by decide +kernel
theorem dX8_copyFrom_32 : decode cX8_copyFrom 32 = .ok (.getfield 27, 3) := by decide +kernel
theorem dX8_copyFrom_35 : decode cX8_copyFrom 35 = .ok (.putfield 27, 3) := by decide +kernel
theorem dX8_copyFrom_38 : decode cX8_copyFrom 38 = .ok (.aload_n 0, 1) := by decide +kernel
theorem dX8_copyFrom_39 : decode cX8_copyFrom 39 = .ok (.aload_n 1, 1) := by decide +kernel
theorem dX8_copyFrom_40 : decode cX8_copyFrom 40 = .ok (.getfield 31, 3) := by decide +kernel
theorem dX8_copyFrom_43 : decode cX8_copyFrom 43 = .ok (.putfield 31, 3) := by decide +kernel
theorem dX8_copyFrom_46 : decode cX8_copyFrom 46 = .ok (.aload_n 0, 1) := by decide +kernel
theorem dX8_copyFrom_47 : decode cX8_copyFrom 47 = .ok (.aload_n 1, 1) := by decide +kernel
theorem dX8_copyFrom_48 : decode cX8_copyFrom 48 = .ok (.getfield 34, 3) := by decide +kernel
theorem dX8_copyFrom_51 : decode cX8_copyFrom 51 = .ok (.putfield 34, 3) := by decide +kernel
theorem dX8_copyFrom_54 : decode cX8_copyFrom 54 = .ok (.return_, 1) := by decide +kernel
theorem dX8_wasSaid_0 : decode cX8_wasSaid 0 = .ok (.iconst 0, 1) := by decide +kernel
theorem dX8_wasSaid_1 : decode cX8_wasSaid 1 = .ok (.istore_n 2, 1) := by decide +kernel
theorem dX8_wasSaid_2 : decode cX8_wasSaid 2 = .ok (.iload_n 2, 1) := by decide +kernel
theorem dX8_wasSaid_3 : decode cX8_wasSaid 3 = .ok (.aload_n 0, 1) := by decide +kernel
theorem dX8_wasSaid_4 : decode cX8_wasSaid 4 = .ok (.getfield 27, 3) := by decide +kernel
theorem dX8_wasSaid_7 : decode cX8_wasSaid 7 = .ok (.if_icmp .ge 21, 3) := by decide +kernel
theorem dX8_wasSaid_10 : decode cX8_wasSaid 10 = .ok (.aload_n 0, 1) := by decide +kernel
theorem dX8_wasSaid_11 : decode cX8_wasSaid 11 = .ok (.getfield 15, 3) := by decide +kernel
theorem dX8_wasSaid_14 : decode cX8_wasSaid 14 = .ok (.iload_n 2, 1) := by decide +kernel
theorem dX8_wasSaid_15 : decode cX8_wasSaid 15 = .ok (.iaload, 1) := by decide +kernel
theorem dX8_wasSaid_16 : decode cX8_wasSaid 16 = .ok (.iload_n 1, 1) := by decide +kernel
theorem dX8_wasSaid_17 : decode cX8_wasSaid 17 = .ok (.if_icmp .ne 5, 3) := by decide +kernel
theorem dX8_wasSaid_20 : decode cX8_wasSaid 20 = .ok (.iconst 1, 1) := by decide +kernel
theorem dX8_wasSaid_21 : decode cX8_wasSaid 21 = .ok (.ireturn, 1) := by decide +kernel
theorem dX8_wasSaid_22 : decode cX8_wasSaid 22 = .ok (.iinc 2 1, 3) := by decide +kernel
theorem dX8_wasSaid_25 : decode cX8_wasSaid 25 = .ok (.goto (-23), 3) := by decide +kernel
theorem dX8_wasSaid_28 : decode cX8_wasSaid 28 = .ok (.iconst 0, 1) := by decide +kernel
theorem dX8_wasSaid_29 : decode cX8_wasSaid 29 = .ok (.ireturn, 1) := by decide +kernel
theorem dX8_play_0 : decode cX8_play 0 = .ok (.aload_n 1, 1) := by decide +kernel
theorem dX8_play_1 : decode cX8_play 1 = .ok (.getfield 37, 3) := by decide +kernel
theorem dX8_play_4 : decode cX8_play 4 = .ok (.iload_n 3, 1) := by decide +kernel
theorem dX8_play_5 : decode cX8_play 5 = .ok (.invokevirtual 43, 3) := by decide +kernel
theorem dX8_play_8 : decode cX8_play 8 = .ok (.istore 6, 2) := by decide +kernel
theorem dX8_play_10 : decode cX8_play 10 = .ok (.aload_n 1, 1) := by decide +kernel
theorem dX8_play_11 : decode cX8_play 11 = .ok (.getfield 37, 3) := by decide +kernel
theorem dX8_play_14 : decode cX8_play 14 = .ok (.iload 5, 2) := by decide +kernel
theorem dX8_play_16 : decode cX8_play 16 = .ok (.invokevirtual 43, 3) := by decide +kernel
theorem dX8_play_19 : decode cX8_play 19 = .ok (.istore 7, 2) := by decide +kernel
theorem dX8_play_21 : decode cX8_play 21 = .ok (.aload_n 0, 1) := by decide +kernel
theorem dX8_play_22 : decode cX8_play 22 = .ok (.getfield 31, 3) := by decide +kernel
theorem dX8_play_25 : decode cX8_play 25 = .ok (.istore 8, 2) := by decide +kernel
theorem dX8_play_27 : decode cX8_play 27 = .ok (.aload_n 0, 1) := by decide +kernel
theorem dX8_play_28 : decode cX8_play 28 = .ok (.getfield 31, 3) := by decide +kernel
theorem dX8_play_31 : decode cX8_play 31 = .ok (.aload_n 1, 1) := by decide +kernel
theorem dX8_play_32 : decode cX8_play 32 = .ok (.iload_n 2, 1) := by decide +kernel
theorem dX8_play_33 : decode cX8_play 33 = .ok (.iload 6, 2) := by decide +kernel
theorem dX8_play_35 : decode cX8_play 35 = .ok (.iload 4, 2) := by decide +kernel
theorem dX8_play_37 : decode cX8_play 37 = .ok (.iload 7, 2) := by decide +kernel
theorem dX8_play_39 : decode cX8_play 39 = .ok (.invokevirtual 49, 3) := by decide +kernel
theorem dX8_play_42 : decode cX8_play 42 = .ok (.iadd, 1) := by decide +kernel
theorem dX8_play_43 : decode cX8_play 43 = .ok (.istore 9, 2) := by decide +kernel
theorem dX8_play_45 : decode cX8_play 45 = .ok (.aload_n 0, 1) := by decide +kernel
theorem dX8_play_46 : decode cX8_play 46 = .ok (.sipush (-500), 3) := by decide +kernel
theorem dX8_play_49 : decode cX8_play 49 = .ok (.sipush 500, 3) := by decide +kernel
theorem dX8_play_52 : decode cX8_play 52 = .ok (.iload 9, 2) := by decide +kernel
theorem dX8_play_54 : decode cX8_play 54 = .ok (.invokestatic 53, 3) := by decide +kernel
theorem dX8_play_57 : decode cX8_play 57 = .ok (.invokestatic 59, 3) := by decide +kernel
theorem dX8_play_60 : decode cX8_play 60 = .ok (.putfield 31, 3) := by decide +kernel
theorem dX8_play_63 : decode cX8_play 63 = .ok (.aload_n 0, 1) := by decide +kernel
theorem dX8_play_64 : decode cX8_play 64 = .ok (.getfield 9, 3) := by decide +kernel
theorem dX8_play_67 : decode cX8_play 67 = .ok (.iload_n 2, 1) := by decide +kernel
theorem dX8_play_68 : decode cX8_play 68 = .ok (.dup2, 1) := by decide +kernel
theorem dX8_play_69 : decode cX8_play 69 = .ok (.iaload, 1) := by decide +kernel
theorem dX8_play_70 : decode cX8_play 70 = .ok (.iload 6, 2) := by decide +kernel
theorem dX8_play_72 : decode cX8_play 72 = .ok (.isub, 1) := by decide +kernel
theorem dX8_play_73 : decode cX8_play 73 = .ok (.iastore, 1) := by decide +kernel
theorem dX8_play_74 : decode cX8_play 74 = .ok (.aload_n 0, 1) := by decide +kernel
theorem dX8_play_75 : decode cX8_play 75 = .ok (.getfield 9, 3) := by decide +kernel
theorem dX8_play_78 : decode cX8_play 78 = .ok (.iload 4, 2) := by decide +kernel
theorem dX8_play_80 : decode cX8_play 80 = .ok (.dup2, 1) := by decide +kernel
theorem dX8_play_81 : decode cX8_play 81 = .ok (.iaload, 1) := by decide +kernel
theorem dX8_play_82 : decode cX8_play 82 = .ok (.iload 7, 2) := by decide +kernel
theorem dX8_play_84 : decode cX8_play 84 = .ok (.isub, 1) := by decide +kernel
theorem dX8_play_85 : decode cX8_play 85 = .ok (.iastore, 1) := by decide +kernel
theorem dX8_play_86 : decode cX8_play 86 = .ok (.aload_n 0, 1) := by decide +kernel
theorem dX8_play_87 : decode cX8_play 87 = .ok (.aload_n 1, 1) := by decide +kernel
theorem dX8_play_88 : decode cX8_play 88 = .ok (.getfield 62, 3) := by decide +kernel
theorem dX8_play_91 : decode cX8_play 91 = .ok (.iload_n 3, 1) := by decide +kernel
theorem dX8_play_92 : decode cX8_play 92 = .ok (.iconst (-1), 1) := by decide +kernel
theorem dX8_play_93 : decode cX8_play 93 = .ok (.if_icmp .ne 7, 3) := by decide +kernel
theorem dX8_play_96 : decode cX8_play 96 = .ok (.iconst (-1), 1) := by decide +kernel
theorem dX8_play_97 : decode cX8_play 97 = .ok (.goto 4, 3) := by decide +kernel
theorem dX8_play_100 : decode cX8_play 100 = .ok (.iload_n 2, 1) := by decide +kernel
theorem dX8_play_101 : decode cX8_play 101 = .ok (.iload 5, 2) := by decide +kernel
theorem dX8_play_103 : decode cX8_play 103 = .ok (.iconst (-1), 1) := by decide +kernel
theorem dX8_play_104 : decode cX8_play 104 = .ok (.if_icmp .ne 7, 3) := by decide +kernel
theorem dX8_play_107 : decode cX8_play 107 = .ok (.iconst (-1), 1) := by decide +kernel
theorem dX8_play_108 : decode cX8_play 108 = .ok (.goto 5, 3) := by decide +kernel
theorem dX8_play_111 : decode cX8_play 111 = .ok (.iload 4, 2) := by decide +kernel
theorem dX8_play_113 : decode cX8_play 113 = .ok (.invokevirtual 66, 3) := by decide +kernel
theorem dX8_play_116 : decode cX8_play 116 = .ok (.aload_n 0, 1) := by decide +kernel
theorem dX8_play_117 : decode cX8_play 117 = .ok (.iload_n 3, 1) := by decide +kernel
theorem dX8_play_118 : decode cX8_play 118 = .ok (.invokevirtual 70, 3) := by decide +kernel
theorem dX8_play_121 : decode cX8_play 121 = .ok (.aload_n 0, 1) := by decide +kernel
theorem dX8_play_122 : decode cX8_play 122 = .ok (.iload 5, 2) := by decide +kernel
theorem dX8_play_124 : decode cX8_play 124 = .ok (.invokevirtual 70, 3) := by decide +kernel
theorem dX8_play_127 : decode cX8_play 127 = .ok (.aload_n 0, 1) := by decide +kernel
theorem dX8_play_128 : decode cX8_play 128 = .ok (.dup, 1) := by decide +kernel
theorem dX8_play_129 : decode cX8_play 129 = .ok (.getfield 34, 3) := by decide +kernel
theorem dX8_play_132 : decode cX8_play 132 = .ok (.iconst 1, 1) := by decide +kernel
theorem dX8_play_133 : decode cX8_play 133 = .ok (.iadd, 1) := by decide +kernel
theorem dX8_play_134 : decode cX8_play 134 = .ok (.putfield 34, 3) := by decide +kernel
theorem dX8_play_137 : decode cX8_play 137 = .ok (.aload_n 0, 1) := by decide +kernel
theorem dX8_play_138 : decode cX8_play 138 = .ok (.getfield 31, 3) := by decide +kernel
theorem dX8_play_141 : decode cX8_play 141 = .ok (.iload 8, 2) := by decide +kernel
theorem dX8_play_143 : decode cX8_play 143 = .ok (.isub, 1) := by decide +kernel
theorem dX8_play_144 : decode cX8_play 144 = .ok (.ireturn, 1) := by decide +kernel
theorem dX8_restAllBut_0 : decode cX8_restAllBut 0 = .ok (.iconst 0, 1) := by decide +kernel
theorem dX8_restAllBut_1 : decode cX8_restAllBut 1 = .ok (.istore 4, 2) := by decide +kernel
theorem dX8_restAllBut_3 : decode cX8_restAllBut 3 = .ok (.iload 4, 2) := by decide +kernel
theorem dX8_restAllBut_5 : decode cX8_restAllBut 5 = .ok (.aload_n 1, 1) := by decide +kernel
theorem dX8_restAllBut_6 : decode cX8_restAllBut 6 = .ok (.getfield 74, 3) := by decide +kernel
theorem dX8_restAllBut_9 : decode cX8_restAllBut 9 = .ok (.if_icmp .ge 49, 3) := by decide +kernel
theorem dX8_restAllBut_12 : decode cX8_restAllBut 12 = .ok (.iload 4, 2) := by decide +kernel
theorem dX8_restAllBut_14 : decode cX8_restAllBut 14 = .ok (.iload_n 2, 1) := by decide +kernel
theorem dX8_restAllBut_15 : decode cX8_restAllBut 15 = .ok (.if_icmp .eq 37, 3) := by decide +kernel
theorem dX8_restAllBut_18 : decode cX8_restAllBut 18 = .ok (.iload 4, 2) := by decide +kernel
theorem dX8_restAllBut_20 : decode cX8_restAllBut 20 = .ok (.iload_n 3, 1) := by decide +kernel
theorem dX8_restAllBut_21 : decode cX8_restAllBut 21 = .ok (.if_icmp .eq 31, 3) := by decide +kernel
theorem dX8_restAllBut_24 : decode cX8_restAllBut 24 = .ok (.aload_n 0, 1) := by decide +kernel
theorem dX8_restAllBut_25 : decode cX8_restAllBut 25 = .ok (.getfield 9, 3) := by decide +kernel
theorem dX8_restAllBut_28 : decode cX8_restAllBut 28 = .ok (.iload 4, 2) := by decide +kernel
theorem dX8_restAllBut_30 : decode cX8_restAllBut 30 = .ok (.iaload, 1) := by decide +kernel
theorem dX8_restAllBut_31 : decode cX8_restAllBut 31 = .ok (.aload_n 1, 1) := by decide +kernel
theorem dX8_restAllBut_32 : decode cX8_restAllBut 32 = .ok (.getfield 18, 3) := by decide +kernel
theorem dX8_restAllBut_35 : decode cX8_restAllBut 35 = .ok (.iload 4, 2) := by decide +kernel
theorem dX8_restAllBut_37 : decode cX8_restAllBut 37 = .ok (.iaload, 1) := by decide +kernel
theorem dX8_restAllBut_38 : decode cX8_restAllBut 38 = .ok (.if_icmp .ge 14, 3) := by decide +kernel
theorem dX8_restAllBut_41 : decode cX8_restAllBut 41 = .ok (.aload_n 0, 1) := by decide +kernel
theorem dX8_restAllBut_42 : decode cX8_restAllBut 42 = .ok (.getfield 9, 3) := by decide +kernel
theorem dX8_restAllBut_45 : decode cX8_restAllBut 45 = .ok (.iload 4, 2) := by decide +kernel
theorem dX8_restAllBut_47 : decode cX8_restAllBut 47 = .ok (.dup2, 1) := by decide +kernel
theorem dX8_restAllBut_48 : decode cX8_restAllBut 48 = .ok (.iaload, 1) := by decide +kernel
theorem dX8_restAllBut_49 : decode cX8_restAllBut 49 = .ok (.iconst 1, 1) := by decide +kernel
theorem dX8_restAllBut_50 : decode cX8_restAllBut 50 = .ok (.iadd, 1) := by decide +kernel
theorem dX8_restAllBut_51 : decode cX8_restAllBut 51 = .ok (.iastore, 1) := by decide +kernel
theorem dX8_restAllBut_52 : decode cX8_restAllBut 52 = .ok (.iinc 4 1, 3) := by decide +kernel
theorem dX8_restAllBut_55 : decode cX8_restAllBut 55 = .ok (.goto (-52), 3) := by decide +kernel
theorem dX8_restAllBut_58 : decode cX8_restAllBut 58 = .ok (.return_, 1) := by decide +kernel
theorem dX8_remember_0 : decode cX8_remember 0 = .ok (.iload_n 1, 1) := by decide +kernel
theorem dX8_remember_1 : decode cX8_remember 1 = .ok (.iconst (-1), 1) := by decide +kernel
theorem dX8_remember_2 : decode cX8_remember 2 = .ok (.if_icmp .ne 4, 3) := by decide +kernel
theorem dX8_remember_5 : decode cX8_remember 5 = .ok (.return_, 1) := by decide +kernel
theorem dX8_remember_6 : decode cX8_remember 6 = .ok (.aload_n 0, 1) := by decide +kernel
theorem dX8_remember_7 : decode cX8_remember 7 = .ok (.getfield 27, 3) := by decide +kernel
theorem dX8_remember_10 : decode cX8_remember 10 = .ok (.bipush 40, 2) := by decide +kernel
theorem dX8_remember_12 : decode cX8_remember 12 = .ok (.if_icmp .lt 24, 3) := by decide +kernel
theorem dX8_remember_15 : decode cX8_remember 15 = .ok (.aload_n 0, 1) := by decide +kernel
theorem dX8_remember_16 : decode cX8_remember 16 = .ok (.getfield 15, 3) := by decide +kernel
theorem dX8_remember_19 : decode cX8_remember 19 = .ok (.iconst 1, 1) := by decide +kernel
theorem dX8_remember_20 : decode cX8_remember 20 = .ok (.aload_n 0, 1) := by decide +kernel
theorem dX8_remember_21 : decode cX8_remember 21 = .ok (.getfield 15, 3) := by decide +kernel
theorem dX8_remember_24 : decode cX8_remember 24 = .ok (.iconst 0, 1) := by decide +kernel
theorem dX8_remember_25 : decode cX8_remember 25 = .ok (.bipush 39, 2) := by decide +kernel
theorem dX8_remember_27 : decode cX8_remember 27 = .ok (.invokestatic 21, 3) := by decide +kernel
theorem dX8_remember_30 : decode cX8_remember 30 = .ok (.aload_n 0, 1) := by decide +kernel
theorem dX8_remember_31 : decode cX8_remember 31 = .ok (.bipush 39, 2) := by decide +kernel
theorem dX8_remember_33 : decode cX8_remember 33 = .ok (.putfield 27, 3) := by decide +kernel
theorem dX8_remember_36 : decode cX8_remember 36 = .ok (.aload_n 0, 1) := by decide +kernel
theorem dX8_remember_37 : decode cX8_remember 37 = .ok (.getfield 15, 3) := by decide +kernel
theorem dX8_remember_40 : decode cX8_remember 40 = .ok (.aload_n 0, 1) := by decide +kernel
theorem dX8_remember_41 : decode cX8_remember 41 = .ok (.getfield 27, 3) := by decide +kernel
theorem dX8_remember_44 : decode cX8_remember 44 = .ok (.iload_n 1, 1) := by decide +kernel
theorem dX8_remember_45 : decode cX8_remember 45 = .ok (.iastore, 1) := by decide +kernel
theorem dX8_remember_46 : decode cX8_remember 46 = .ok (.aload_n 0, 1) := by decide +kernel
theorem dX8_remember_47 : decode cX8_remember 47 = .ok (.dup, 1) := by decide +kernel
theorem dX8_remember_48 : decode cX8_remember 48 = .ok (.getfield 27, 3) := by decide +kernel
theorem dX8_remember_51 : decode cX8_remember 51 = .ok (.iconst 1, 1) := by decide +kernel
theorem dX8_remember_52 : decode cX8_remember 52 = .ok (.iadd, 1) := by decide +kernel
theorem dX8_remember_53 : decode cX8_remember 53 = .ok (.putfield 27, 3) := by decide +kernel
theorem dX8_remember_56 : decode cX8_remember 56 = .ok (.return_, 1) := by decide +kernel
theorem dX9_init_0 : decode cX9_init 0 = .ok (.aload_n 0, 1) := by decide +kernel
theorem dX9_init_1 : decode cX9_init 1 = .ok (.invokespecial 3, 3) := by decide +kernel
theorem dX9_init_4 : decode cX9_init 4 = .ok (.aload_n 0, 1) := by decide +kernel
theorem dX9_init_5 : decode cX9_init 5 = .ok (.sipush 250, 3) := by decide +kernel
theorem dX9_init_8 : decode cX9_init 8 = .ok (.newarray .char, 2) := by decide +kernel
theorem dX9_init_10 : decode cX9_init 10 = .ok (.putfield 9, 3) := by decide +kernel
theorem dX9_init_13 : decode cX9_init 13 = .ok (.aload_n 0, 1) := by decide +kernel
theorem dX9_init_14 : decode cX9_init 14 = .ok (.iconst 0, 1) := by decide +kernel
theorem dX9_init_15 : decode cX9_init 15 = .ok (.putfield 15, 3) := by decide +kernel
theorem dX9_init_18 : decode cX9_init 18 = .ok (.aload_n 0, 1) := by decide +kernel
theorem dX9_init_19 : decode cX9_init 19 = .ok (.iconst (-1), 1) := by decide +kernel
theorem dX9_init_20 : decode cX9_init 20 = .ok (.putfield 19, 3) := by decide +kernel
theorem dX9_init_23 : decode cX9_init 23 = .ok (.return_, 1) := by decide +kernel
theorem dX9_add_0 : decode cX9_add 0 = .ok (.aload_n 0, 1) := by decide +kernel
theorem dX9_add_1 : decode cX9_add 1 = .ok (.getfield 22, 3) := by decide +kernel
theorem dX9_add_4 : decode cX9_add 4 = .ok (.sipush 250, 3) := by decide +kernel
theorem dX9_add_7 : decode cX9_add 7 = .ok (.if_icmp .ge 24, 3) := by decide +kernel
theorem dX9_add_10 : decode cX9_add 10 = .ok (.aload_n 0, 1) := by decide +kernel
theorem dX9_add_11 : decode cX9_add 11 = .ok (.getfield 9, 3) := by decide +kernel
theorem dX9_add_14 : decode cX9_add 14 = .ok (.aload_n 0, 1) := by decide +kernel
theorem dX9_add_15 : decode cX9_add 15 = .ok (.getfield 22, 3) := by decide +kernel
theorem dX9_add_18 : decode cX9_add 18 = .ok (.iload_n 1, 1) := by decide +kernel
theorem dX9_add_19 : decode cX9_add 19 = .ok (.i2c, 1) := by decide +kernel
theorem dX9_add_20 : decode cX9_add 20 = .ok (.castore, 1) := by decide +kernel
theorem dX9_add_21 : decode cX9_add 21 = .ok (.aload_n 0, 1) := by decide +kernel
theorem dX9_add_22 : decode cX9_add 22 = .ok (.dup, 1) := by decide +kernel
theorem dX9_add_23 : decode cX9_add 23 = .ok (.getfield 22, 3) := by decide +kernel
theorem dX9_add_26 : decode cX9_add 26 = .ok (.iconst 1, 1) := by decide +kernel
theorem dX9_add_27 : decode cX9_add 27 = .ok (.iadd, 1) := by decide +kernel
theorem dX9_add_28 : decode cX9_add 28 = .ok (.putfield 22, 3) := by decide +kernel
theorem dX9_add_31 : decode cX9_add 31 = .ok (.return_, 1) := by decide +kernel
theorem dX9_readInto_0 : decode cX9_readInto 0 = .ok (.aload_n 0, 1) := by decide +kernel
theorem dX9_readInto_1 : decode cX9_readInto 1 = .ok (.iconst 0, 1) := by decide +kernel
theorem dX9_readInto_2 : decode cX9_readInto 2 = .ok (.putfield 25, 3) := by decide +kernel
theorem dX9_readInto_5 : decode cX9_readInto 5 = .ok (.aload_n 0, 1) := by decide +kernel
theorem dX9_readInto_6 : decode cX9_readInto 6 = .ok (.iconst 0, 1) := by decide +kernel
theorem dX9_readInto_7 : decode cX9_readInto 7 = .ok (.putfield 15, 3) := by decide +kernel
theorem dX9_readInto_10 : decode cX9_readInto 10 = .ok (.aload_n 0, 1) := by decide +kernel
theorem dX9_readInto_11 : decode cX9_readInto 11 = .ok (.iconst (-1), 1) := by decide +kernel
theorem dX9_readInto_12 : decode cX9_readInto 12 = .ok (.putfield 19, 3) := by decide +kernel
theorem dX9_readInto_15 : decode cX9_readInto 15 = .ok (.aload_n 1, 1) := by decide +kernel
theorem dX9_readInto_16 : decode cX9_readInto 16 = .ok (.invokevirtual 28, 3) := by decide +kernel
theorem dX9_readInto_19 : decode cX9_readInto 19 = .ok (.aload_n 0, 1) := by decide +kernel
theorem dX9_readInto_20 : decode cX9_readInto 20 = .ok (.invokevirtual 33, 3) := by decide +kernel
theorem dX9_readInto_23 : decode cX9_readInto 23 = .ok (.iconst 0, 1) := by decide +kernel
theorem dX9_readInto_24 : decode cX9_readInto 24 = .ok (.istore_n 2, 1) := by decide +kernel
theorem dX9_readInto_25 : decode cX9_readInto 25 = .ok (.iload_n 2, 1) := by decide +kernel
theorem dX9_readInto_26 : decode cX9_readInto 26 = .ok (.sipush 250, 3) := by decide +kernel
theorem dX9_readInto_29 : decode cX9_readInto 29 = .ok (.if_icmp .ge 45, 3) := by decide +kernel
theorem dX9_readInto_32 : decode cX9_readInto 32 = .ok (.aload_n 0, 1) := by decide +kernel
theorem dX9_readInto_33 : decode cX9_readInto 33 = .ok (.getfield 25, 3) := by decide +kernel
theorem dX9_readInto_36 : decode cX9_readInto 36 = .ok (.aload_n 0, 1) := by decide +kernel
theorem dX9_readInto_37 : decode cX9_readInto 37 = .ok (.getfield 22, 3) := by decide +kernel
theorem dX9_readInto_40 : decode cX9_readInto 40 = .ok (.if_icmp .ge 34, 3) := by decide +kernel
theorem dX9_readInto_43 : decode cX9_readInto 43 = .ok (.aload_n 0, 1) := by decide +kernel
theorem dX9_readInto_44 : decode cX9_readInto 44 = .ok (.getfield 15, 3) := by decide +kernel
theorem dX9_readInto_47 : decode cX9_readInto 47 = .ok (.ifCond .ne 27, 3) := by decide +kernel
theorem dX9_readInto_50 : decode cX9_readInto 50 = .ok (.aload_n 0, 1) := by decide +kernel
theorem dX9_readInto_51 : decode cX9_readInto 51 = .ok (.aload_n 1, 1) := by decide +kernel
theorem dX9_readInto_52 : decode cX9_readInto 52 = .ok (.aload_n 0, 1) := by decide +kernel
theorem dX9_readInto_53 : decode cX9_readInto 53 = .ok (.getfield 9, 3) := by decide +kernel
theorem dX9_readInto_56 : decode cX9_readInto 56 = .ok (.aload_n 0, 1) := by decide +kernel
theorem dX9_readInto_57 : decode cX9_readInto 57 = .ok (.getfield 25, 3) := by decide +kernel
theorem dX9_readInto_60 : decode cX9_readInto 60 = .ok (.caload, 1) := by decide +kernel
theorem dX9_readInto_61 : decode cX9_readInto 61 = .ok (.invokevirtual 36, 3) := by decide +kernel
theorem dX9_readInto_64 : decode cX9_readInto 64 = .ok (.aload_n 0, 1) := by decide +kernel
theorem dX9_readInto_65 : decode cX9_readInto 65 = .ok (.invokevirtual 33, 3) := by decide +kernel
theorem dX9_readInto_68 : decode cX9_readInto 68 = .ok (.iinc 2 1, 3) := by decide +kernel
theorem dX9_readInto_71 : decode cX9_readInto 71 = .ok (.goto (-46), 3) := by decide +kernel
theorem dX9_readInto_74 : decode cX9_readInto 74 = .ok (.aload_n 0, 1) := by decide +kernel
theorem dX9_readInto_75 : decode cX9_readInto 75 = .ok (.iconst 0, 1) := by decide +kernel
theorem dX9_readInto_76 : decode cX9_readInto 76 = .ok (.putfield 22, 3) := by decide +kernel
theorem dX9_readInto_79 : decode cX9_readInto 79 = .ok (.return_, 1) := by decide +kernel
theorem dX9_readClause_0 : decode cX9_readClause 0 = .ok (.aload_n 1, 1) := by decide +kernel
theorem dX9_readClause_1 : decode cX9_readClause 1 = .ok (.getfield 40, 3) := by decide +kernel
theorem dX9_readClause_4 : decode cX9_readClause 4 = .ok (.getfield 44, 3) := by decide +kernel
theorem dX9_readClause_7 : decode cX9_readClause 7 = .ok (.ifCond .ne 19, 3) := by decide +kernel
theorem dX9_readClause_10 : decode cX9_readClause 10 = .ok (.iload_n 2, 1) := by decide +kernel
theorem dX9_readClause_11 : decode cX9_readClause 11 = .ok (.bipush 103, 2) := by decide +kernel
theorem dX9_readClause_13 : decode cX9_readClause 13 = .ok (.if_icmp .eq 13, 3) := by decide +kernel
theorem dX9_readClause_16 : decode cX9_readClause 16 = .ok (.aload_n 0, 1) := by decide +kernel
theorem dX9_readClause_17 : decode cX9_readClause 17 = .ok (.iconst 1, 1) := by decide +kernel
theorem dX9_readClause_18 : decode cX9_readClause 18 = .ok (.aload_n 0, 1) := by decide +kernel
theorem dX9_readClause_19 : decode cX9_readClause 19 = .ok (.getfield 25, 3) := by decide +kernel
theorem dX9_readClause_22 : decode cX9_readClause 22 = .ok (.invokevirtual 49, 3) := by decide +kernel
theorem dX9_readClause_25 : decode cX9_readClause 25 = .ok (.return_, 1) := by decide +kernel
theorem dX9_readClause_26 : decode cX9_readClause 26 = .ok (.iload_n 2, 1) := by decide +kernel
theorem dX9_readClause_27 : decode cX9_readClause 27 = .ok (.tableswitch 128 101 115 #[95, 128, 73, 128, 128, 128, 128, 128, 128, 117, 128, 106, 128, 128, 84], 73) := by decide +kernel
theorem dX9_readClause_100 : decode cX9_readClause 100 = .ok (.aload_n 0, 1) := by decide +kernel
theorem dX9_readClause_101 : decode cX9_readClause 101 = .ok (.aload_n 1, 1) := by decide +kernel
theorem dX9_readClause_102 : decode cX9_readClause 102 = .ok (.getfield 40, 3) := by decide +kernel
theorem dX9_readClause_105 : decode cX9_readClause 105 = .ok (.invokevirtual 53, 3) := by decide +kernel
theorem dX9_readClause_108 : decode cX9_readClause 108 = .ok (.goto 56, 3) := by decide +kernel
theorem dX9_readClause_111 : decode cX9_readClause 111 = .ok (.aload_n 0, 1) := by decide +kernel
theorem dX9_readClause_112 : decode cX9_readClause 112 = .ok (.aload_n 1, 1) := by decide +kernel
theorem dX9_readClause_113 : decode cX9_readClause 113 = .ok (.getfield 40, 3) := by decide +kernel
theorem dX9_readClause_116 : decode cX9_readClause 116 = .ok (.invokevirtual 57, 3) := by decide +kernel
theorem dX9_readClause_119 : decode cX9_readClause 119 = .ok (.goto 45, 3) := by decide +kernel
theorem dX9_readClause_122 : decode cX9_readClause 122 = .ok (.aload_n 0, 1) := by decide +kernel
theorem dX9_readClause_123 : decode cX9_readClause 123 = .ok (.aload_n 1, 1) := by decide +kernel
theorem dX9_readClause_124 : decode cX9_readClause 124 = .ok (.getfield 40, 3) := by decide +kernel
theorem dX9_readClause_127 : decode cX9_readClause 127 = .ok (.invokevirtual 60, 3) := by decide +kernel
theorem dX9_readClause_130 : decode cX9_readClause 130 = .ok (.goto 34, 3) := by decide +kernel
theorem dX9_readClause_133 : decode cX9_readClause 133 = .ok (.aload_n 0, 1) := by decide +kernel
theorem dX9_readClause_134 : decode cX9_readClause 134 = .ok (.aload_n 1, 1) := by decide +kernel
theorem dX9_readClause_135 : decode cX9_readClause 135 = .ok (.getfield 63, 3) := by decide +kernel
theorem dX9_readClause_138 : decode cX9_readClause 138 = .ok (.invokevirtual 67, 3) := by decide +kernel
theorem dX9_readClause_141 : decode cX9_readClause 141 = .ok (.goto 23, 3) := by decide +kernel
theorem dX9_readClause_144 : decode cX9_readClause 144 = .ok (.aload_n 0, 1) := by decide +kernel
theorem dX9_readClause_145 : decode cX9_readClause 145 = .ok (.aload_n 1, 1) := by decide +kernel
theorem dX9_readClause_146 : decode cX9_readClause 146 = .ok (.getfield 40, 3) := by decide +kernel
theorem dX9_readClause_149 : decode cX9_readClause 149 = .ok (.invokevirtual 71, 3) := by decide +kernel
theorem dX9_readClause_152 : decode cX9_readClause 152 = .ok (.goto 12, 3) := by decide +kernel
theorem dX9_readClause_155 : decode cX9_readClause 155 = .ok (.aload_n 0, 1) := by decide +kernel
theorem dX9_readClause_156 : decode cX9_readClause 156 = .ok (.iconst 1, 1) := by decide +kernel
theorem dX9_readClause_157 : decode cX9_readClause 157 = .ok (.aload_n 0, 1) := by decide +kernel
theorem dX9_readClause_158 : decode cX9_readClause 158 = .ok (.getfield 25, 3) := by decide +kernel
theorem dX9_readClause_161 : decode cX9_readClause 161 = .ok (.invokevirtual 49, 3) := by decide +kernel
theorem dX9_readClause_164 : decode cX9_readClause 164 = .ok (.return_, 1) := by decide +kernel
theorem dX9_readGrammar_0 : decode cX9_readGrammar 0 = .ok (.aload_n 0, 1) := by decide +kernel
theorem dX9_readGrammar_1 : decode cX9_readGrammar 1 = .ok (.aload_n 1, 1) := by decide +kernel
theorem dX9_readGrammar_2 : decode cX9_readGrammar 2 = .ok (.getfield 44, 3) := by decide +kernel
theorem dX9_readGrammar_5 : decode cX9_readGrammar 5 = .ok (.ifCond .ne 7, 3) := by decide +kernel
theorem dX9_readGrammar_8 : decode cX9_readGrammar 8 = .ok (.iconst 1, 1) := by decide +kernel
theorem dX9_readGrammar_9 : decode cX9_readGrammar 9 = .ok (.goto 4, 3) := by decide +kernel
theorem dX9_readGrammar_12 : decode cX9_readGrammar 12 = .ok (.iconst 0, 1) := by decide +kernel
theorem dX9_readGrammar_13 : decode cX9_readGrammar 13 = .ok (.invokevirtual 74, 3) := by decide +kernel
theorem dX9_readGrammar_16 : decode cX9_readGrammar 16 = .ok (.aload_n 0, 1) := by decide +kernel
theorem dX9_readGrammar_17 : decode cX9_readGrammar 17 = .ok (.iconst 1, 1) := by decide +kernel
theorem dX9_readGrammar_18 : decode cX9_readGrammar 18 = .ok (.iconst 4, 1) := by decide +kernel
theorem dX9_readGrammar_19 : decode cX9_readGrammar 19 = .ok (.invokevirtual 78, 3) := by decide +kernel
theorem dX9_readGrammar_22 : decode cX9_readGrammar 22 = .ok (.istore_n 2, 1) := by decide +kernel
theorem dX9_readGrammar_23 : decode cX9_readGrammar 23 = .ok (.aload_n 0, 1) := by decide +kernel
theorem dX9_readGrammar_24 : decode cX9_readGrammar 24 = .ok (.iconst 0, 1) := by decide +kernel
theorem dX9_readGrammar_25 : decode cX9_readGrammar 25 = .ok (.bipush 9, 2) := by decide +kernel
theorem dX9_readGrammar_27 : decode cX9_readGrammar 27 = .ok (.invokevirtual 78, 3) := by decide +kernel
theorem dX9_readGrammar_30 : decode cX9_readGrammar 30 = .ok (.istore_n 3, 1) := by decide +kernel
theorem dX9_readGrammar_31 : decode cX9_readGrammar 31 = .ok (.aload_n 0, 1) := by decide +kernel
theorem dX9_readGrammar_32 : decode cX9_readGrammar 32 = .ok (.invokevirtual 82, 3) := by decide +kernel
theorem dX9_readGrammar_35 : decode cX9_readGrammar 35 = .ok (.aload_n 0, 1) := by decide +kernel
theorem dX9_readGrammar_36 : decode cX9_readGrammar 36 = .ok (.getfield 15, 3) := by decide +kernel
theorem dX9_readGrammar_39 : decode cX9_readGrammar 39 = .ok (.ifCond .ne 13, 3) := by decide +kernel
theorem dX9_readGrammar_42 : decode cX9_readGrammar 42 = .ok (.aload_n 1, 1) := by decide +kernel
theorem dX9_readGrammar_43 : decode cX9_readGrammar 43 = .ok (.iload_n 2, 1) := by decide +kernel
