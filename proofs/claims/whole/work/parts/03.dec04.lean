theorem dX11_here_54 : decode cX11_here 54 = .ok (.getfield 111, 3) := by decide +kernel
theorem dX11_here_57 : decode cX11_here 57 = .ok (.iaload, 1) := by decide +kernel
theorem dX11_here_58 : decode cX11_here 58 = .ok (.goto 4, 3) := by decide +kernel
theorem dX11_here_61 : decode cX11_here 61 = .ok (.iconst (-1), 1) := by decide +kernel
theorem dX11_here_62 : decode cX11_here 62 = .ok (.ireturn, 1) := by decide +kernel
theorem dX11_fails_0 : decode cX11_fails 0 = .ok (.aload_n 0, 1) := by decide +kernel
theorem dX11_fails_1 : decode cX11_fails 1 = .ok (.iload_n 2, 1) := by decide +kernel
theorem dX11_fails_2 : decode cX11_fails 2 = .ok (.putfield 37, 3) := by decide +kernel
theorem dX11_fails_5 : decode cX11_fails 5 = .ok (.iload_n 1, 1) := by decide +kernel
theorem dX11_fails_6 : decode cX11_fails 6 = .ok (.ireturn, 1) := by decide +kernel
theorem dX11_takeNumber_0 : decode cX11_takeNumber 0 = .ok (.aload_n 0, 1) := by decide +kernel
theorem dX11_takeNumber_1 : decode cX11_takeNumber 1 = .ok (.invokevirtual 114, 3) := by decide +kernel
theorem dX11_takeNumber_4 : decode cX11_takeNumber 4 = .ok (.istore_n 3, 1) := by decide +kernel
theorem dX11_takeNumber_5 : decode cX11_takeNumber 5 = .ok (.iload_n 3, 1) := by decide +kernel
theorem dX11_takeNumber_6 : decode cX11_takeNumber 6 = .ok (.i2l, 1) := by decide +kernel
theorem dX11_takeNumber_7 : decode cX11_takeNumber 7 = .ok (.ldc2_w 118, 3) := by decide +kernel
theorem dX11_takeNumber_10 : decode cX11_takeNumber 10 = .ok (.ldc2_w 120, 3) := by decide +kernel
theorem dX11_takeNumber_13 : decode cX11_takeNumber 13 = .ok (.invokestatic 96, 3) := by decide +kernel
theorem dX11_takeNumber_16 : decode cX11_takeNumber 16 = .ok (.ifCond .ne 13, 3) := by decide +kernel
theorem dX11_takeNumber_19 : decode cX11_takeNumber 19 = .ok (.aload_n 0, 1) := by decide +kernel
theorem dX11_takeNumber_20 : decode cX11_takeNumber 20 = .ok (.iconst 1, 1) := by decide +kernel
theorem dX11_takeNumber_21 : decode cX11_takeNumber 21 = .ok (.aload_n 0, 1) := by decide +kernel
theorem dX11_takeNumber_22 : decode cX11_takeNumber 22 = .ok (.getfield 111, 3) := by decide +kernel
theorem dX11_takeNumber_25 : decode cX11_takeNumber 25 = .ok (.invokevirtual 122, 3) := by decide +kernel
theorem dX11_takeNumber_28 : decode cX11_takeNumber 28 = .ok (.ireturn, 1) := by decide +kernel
theorem dX11_takeNumber_29 : decode cX11_takeNumber 29 = .ok (.aload_n 0, 1) := by decide +kernel
theorem dX11_takeNumber_30 : decode cX11_takeNumber 30 = .ok (.aload_n 0, 1) := by decide +kernel
theorem dX11_takeNumber_31 : decode cX11_takeNumber 31 = .ok (.getfield 111, 3) := by decide +kernel
theorem dX11_takeNumber_34 : decode cX11_takeNumber 34 = .ok (.putfield 126, 3) := by decide +kernel
theorem dX11_takeNumber_37 : decode cX11_takeNumber 37 = .ok (.aload_n 0, 1) := by decide +kernel
theorem dX11_takeNumber_38 : decode cX11_takeNumber 38 = .ok (.iconst 0, 1) := by decide +kernel
theorem dX11_takeNumber_39 : decode cX11_takeNumber 39 = .ok (.putfield 129, 3) := by decide +kernel
theorem dX11_takeNumber_42 : decode cX11_takeNumber 42 = .ok (.aload_n 0, 1) := by decide +kernel
theorem dX11_takeNumber_43 : decode cX11_takeNumber 43 = .ok (.getfield 111, 3) := by decide +kernel
theorem dX11_takeNumber_46 : decode cX11_takeNumber 46 = .ok (.aload_n 0, 1) := by decide +kernel
theorem dX11_takeNumber_47 : decode cX11_takeNumber 47 = .ok (.getfield 107, 3) := by decide +kernel
theorem dX11_takeNumber_50 : decode cX11_takeNumber 50 = .ok (.if_icmp .ge 79, 3) := by decide +kernel
theorem dX11_takeNumber_53 : decode cX11_takeNumber 53 = .ok (.aload_n 0, 1) := by decide +kernel
theorem dX11_takeNumber_54 : decode cX11_takeNumber 54 = .ok (.getfield 34, 3) := by decide +kernel
theorem dX11_takeNumber_57 : decode cX11_takeNumber 57 = .ok (.aload_n 0, 1) := by decide +kernel
theorem dX11_takeNumber_58 : decode cX11_takeNumber 58 = .ok (.getfield 111, 3) := by decide +kernel
theorem dX11_takeNumber_61 : decode cX11_takeNumber 61 = .ok (.iaload, 1) := by decide +kernel
theorem dX11_takeNumber_62 : decode cX11_takeNumber 62 = .ok (.i2l, 1) := by decide +kernel
theorem dX11_takeNumber_63 : decode cX11_takeNumber 63 = .ok (.ldc2_w 118, 3) := by decide +kernel
theorem dX11_takeNumber_66 : decode cX11_takeNumber 66 = .ok (.ldc2_w 120, 3) := by decide +kernel
theorem dX11_takeNumber_69 : decode cX11_takeNumber 69 = .ok (.invokestatic 96, 3) := by decide +kernel
theorem dX11_takeNumber_72 : decode cX11_takeNumber 72 = .ok (.ifCond .eq 57, 3) := by decide +kernel
theorem dX11_takeNumber_75 : decode cX11_takeNumber 75 = .ok (.aload_n 0, 1) := by decide +kernel
theorem dX11_takeNumber_76 : decode cX11_takeNumber 76 = .ok (.aload_n 0, 1) := by decide +kernel
theorem dX11_takeNumber_77 : decode cX11_takeNumber 77 = .ok (.getfield 129, 3) := by decide +kernel
theorem dX11_takeNumber_80 : decode cX11_takeNumber 80 = .ok (.sipush 10000, 3) := by decide +kernel
theorem dX11_takeNumber_83 : decode cX11_takeNumber 83 = .ok (.if_icmp .le 10, 3) := by decide +kernel
theorem dX11_takeNumber_86 : decode cX11_takeNumber 86 = .ok (.aload_n 0, 1) := by decide +kernel
theorem dX11_takeNumber_87 : decode cX11_takeNumber 87 = .ok (.getfield 129, 3) := by decide +kernel
theorem dX11_takeNumber_90 : decode cX11_takeNumber 90 = .ok (.goto 23, 3) := by decide +kernel
theorem dX11_takeNumber_93 : decode cX11_takeNumber 93 = .ok (.bipush 10, 2) := by decide +kernel
theorem dX11_takeNumber_95 : decode cX11_takeNumber 95 = .ok (.aload_n 0, 1) := by decide +kernel
theorem dX11_takeNumber_96 : decode cX11_takeNumber 96 = .ok (.getfield 129, 3) := by decide +kernel
theorem dX11_takeNumber_99 : decode cX11_takeNumber 99 = .ok (.imul, 1) := by decide +kernel
theorem dX11_takeNumber_100 : decode cX11_takeNumber 100 = .ok (.aload_n 0, 1) := by decide +kernel
theorem dX11_takeNumber_101 : decode cX11_takeNumber 101 = .ok (.getfield 34, 3) := by decide +kernel
theorem dX11_takeNumber_104 : decode cX11_takeNumber 104 = .ok (.aload_n 0, 1) := by decide +kernel
theorem dX11_takeNumber_105 : decode cX11_takeNumber 105 = .ok (.getfield 111, 3) := by decide +kernel
theorem dX11_takeNumber_108 : decode cX11_takeNumber 108 = .ok (.iaload, 1) := by decide +kernel
theorem dX11_takeNumber_109 : decode cX11_takeNumber 109 = .ok (.iadd, 1) := by decide +kernel
theorem dX11_takeNumber_110 : decode cX11_takeNumber 110 = .ok (.bipush 48, 2) := by decide +kernel
theorem dX11_takeNumber_112 : decode cX11_takeNumber 112 = .ok (.isub, 1) := by decide +kernel
theorem dX11_takeNumber_113 : decode cX11_takeNumber 113 = .ok (.putfield 129, 3) := by decide +kernel
theorem dX11_takeNumber_116 : decode cX11_takeNumber 116 = .ok (.aload_n 0, 1) := by decide +kernel
theorem dX11_takeNumber_117 : decode cX11_takeNumber 117 = .ok (.dup, 1) := by decide +kernel
theorem dX11_takeNumber_118 : decode cX11_takeNumber 118 = .ok (.getfield 111, 3) := by decide +kernel
theorem dX11_takeNumber_121 : decode cX11_takeNumber 121 = .ok (.iconst 1, 1) := by decide +kernel
theorem dX11_takeNumber_122 : decode cX11_takeNumber 122 = .ok (.iadd, 1) := by decide +kernel
theorem dX11_takeNumber_123 : decode cX11_takeNumber 123 = .ok (.putfield 111, 3) := by decide +kernel
theorem dX11_takeNumber_126 : decode cX11_takeNumber 126 = .ok (.goto (-84), 3) := by decide +kernel
theorem dX11_takeNumber_129 : decode cX11_takeNumber 129 = .ok (.aload_n 0, 1) := by decide +kernel
theorem dX11_takeNumber_130 : decode cX11_takeNumber 130 = .ok (.getfield 111, 3) := by decide +kernel
theorem dX11_takeNumber_133 : decode cX11_takeNumber 133 = .ok (.aload_n 0, 1) := by decide +kernel
theorem dX11_takeNumber_134 : decode cX11_takeNumber 134 = .ok (.getfield 126, 3) := by decide +kernel
theorem dX11_takeNumber_137 : decode cX11_takeNumber 137 = .ok (.isub, 1) := by decide +kernel
theorem dX11_takeNumber_138 : decode cX11_takeNumber 138 = .ok (.iconst 3, 1) := by decide +kernel
theorem dX11_takeNumber_139 : decode cX11_takeNumber 139 = .ok (.if_icmp .gt 18, 3) := by decide +kernel
theorem dX11_takeNumber_142 : decode cX11_takeNumber 142 = .ok (.aload_n 0, 1) := by decide +kernel
theorem dX11_takeNumber_143 : decode cX11_takeNumber 143 = .ok (.getfield 129, 3) := by decide +kernel
theorem dX11_takeNumber_146 : decode cX11_takeNumber 146 = .ok (.i2l, 1) := by decide +kernel
theorem dX11_takeNumber_147 : decode cX11_takeNumber 147 = .ok (.iload_n 1, 1) := by decide +kernel
theorem dX11_takeNumber_148 : decode cX11_takeNumber 148 = .ok (.i2l, 1) := by decide +kernel
theorem dX11_takeNumber_149 : decode cX11_takeNumber 149 = .ok (.iload_n 2, 1) := by decide +kernel
theorem dX11_takeNumber_150 : decode cX11_takeNumber 150 = .ok (.i2l, 1) := by decide +kernel
theorem dX11_takeNumber_151 : decode cX11_takeNumber 151 = .ok (.invokestatic 96, 3) := by decide +kernel
theorem dX11_takeNumber_154 : decode cX11_takeNumber 154 = .ok (.ifCond .ne 15, 3) := by decide +kernel
theorem dX11_takeNumber_157 : decode cX11_takeNumber 157 = .ok (.aload_n 0, 1) := by decide +kernel
theorem dX11_takeNumber_158 : decode cX11_takeNumber 158 = .ok (.iconst 2, 1) := by decide +kernel
theorem dX11_takeNumber_159 : decode cX11_takeNumber 159 = .ok (.aload_n 0, 1) := by decide +kernel
theorem dX11_takeNumber_160 : decode cX11_takeNumber 160 = .ok (.getfield 126, 3) := by decide +kernel
theorem dX11_takeNumber_163 : decode cX11_takeNumber 163 = .ok (.invokevirtual 122, 3) := by decide +kernel
theorem dX11_takeNumber_166 : decode cX11_takeNumber 166 = .ok (.goto 4, 3) := by decide +kernel
theorem dX11_takeNumber_169 : decode cX11_takeNumber 169 = .ok (.iconst 0, 1) := by decide +kernel
theorem dX11_takeNumber_170 : decode cX11_takeNumber 170 = .ok (.ireturn, 1) := by decide +kernel
theorem dX11_into_0 : decode cX11_into 0 = .ok (.aload_n 0, 1) := by decide +kernel
theorem dX11_into_1 : decode cX11_into 1 = .ok (.iload_n 3, 1) := by decide +kernel
theorem dX11_into_2 : decode cX11_into 2 = .ok (.iload 4, 2) := by decide +kernel
theorem dX11_into_4 : decode cX11_into 4 = .ok (.invokevirtual 132, 3) := by decide +kernel
theorem dX11_into_7 : decode cX11_into 7 = .ok (.istore 5, 2) := by decide +kernel
theorem dX11_into_9 : decode cX11_into 9 = .ok (.aload_n 1, 1) := by decide +kernel
theorem dX11_into_10 : decode cX11_into 10 = .ok (.iload_n 2, 1) := by decide +kernel
theorem dX11_into_11 : decode cX11_into 11 = .ok (.aload_n 0, 1) := by decide +kernel
theorem dX11_into_12 : decode cX11_into 12 = .ok (.getfield 129, 3) := by decide +kernel
theorem dX11_into_15 : decode cX11_into 15 = .ok (.iastore, 1) := by decide +kernel
theorem dX11_into_16 : decode cX11_into 16 = .ok (.iload 5, 2) := by decide +kernel
theorem dX11_into_18 : decode cX11_into 18 = .ok (.ireturn, 1) := by decide +kernel
theorem dX11_takeGrammar_0 : decode cX11_takeGrammar 0 = .ok (.aload_n 0, 1) := by decide +kernel
theorem dX11_takeGrammar_1 : decode cX11_takeGrammar 1 = .ok (.aload_n 0, 1) := by decide +kernel
theorem dX11_takeGrammar_2 : decode cX11_takeGrammar 2 = .ok (.getfield 41, 3) := by decide +kernel
theorem dX11_takeGrammar_5 : decode cX11_takeGrammar 5 = .ok (.iconst 0, 1) := by decide +kernel
theorem dX11_takeGrammar_6 : decode cX11_takeGrammar 6 = .ok (.iconst 1, 1) := by decide +kernel
theorem dX11_takeGrammar_7 : decode cX11_takeGrammar 7 = .ok (.iconst 4, 1) := by decide +kernel
theorem dX11_takeGrammar_8 : decode cX11_takeGrammar 8 = .ok (.invokevirtual 135, 3) := by decide +kernel
theorem dX11_takeGrammar_11 : decode cX11_takeGrammar 11 = .ok (.istore_n 1, 1) := by decide +kernel
theorem dX11_takeGrammar_12 : decode cX11_takeGrammar 12 = .ok (.iload_n 1, 1) := by decide +kernel
theorem dX11_takeGrammar_13 : decode cX11_takeGrammar 13 = .ok (.ifCond .le 7, 3) := by decide +kernel
theorem dX11_takeGrammar_16 : decode cX11_takeGrammar 16 = .ok (.iload_n 1, 1) := by decide +kernel
theorem dX11_takeGrammar_17 : decode cX11_takeGrammar 17 = .ok (.goto 15, 3) := by decide +kernel
theorem dX11_takeGrammar_20 : decode cX11_takeGrammar 20 = .ok (.aload_n 0, 1) := by decide +kernel
theorem dX11_takeGrammar_21 : decode cX11_takeGrammar 21 = .ok (.aload_n 0, 1) := by decide +kernel
theorem dX11_takeGrammar_22 : decode cX11_takeGrammar 22 = .ok (.getfield 41, 3) := by decide +kernel
theorem dX11_takeGrammar_25 : decode cX11_takeGrammar 25 = .ok (.iconst 1, 1) := by decide +kernel
theorem dX11_takeGrammar_26 : decode cX11_takeGrammar 26 = .ok (.iconst 0, 1) := by decide +kernel
theorem dX11_takeGrammar_27 : decode cX11_takeGrammar 27 = .ok (.bipush 9, 2) := by decide +kernel
theorem dX11_takeGrammar_29 : decode cX11_takeGrammar 29 = .ok (.invokevirtual 135, 3) := by decide +kernel
theorem dX11_takeGrammar_32 : decode cX11_takeGrammar 32 = .ok (.ireturn, 1) := by decide +kernel
theorem dX11_takeStem_0 : decode cX11_takeStem 0 = .ok (.aload_n 0, 1) := by decide +kernel
theorem dX11_takeStem_1 : decode cX11_takeStem 1 = .ok (.getfield 62, 3) := by decide +kernel
theorem dX11_takeStem_4 : decode cX11_takeStem 4 = .ok (.aload_n 0, 1) := by decide +kernel
theorem dX11_takeStem_5 : decode cX11_takeStem 5 = .ok (.getfield 139, 3) := by decide +kernel
theorem dX11_takeStem_8 : decode cX11_takeStem 8 = .ok (.iconst 0, 1) := by decide +kernel
theorem dX11_takeStem_9 : decode cX11_takeStem 9 = .ok (.iastore, 1) := by decide +kernel
theorem dX11_takeStem_10 : decode cX11_takeStem 10 = .ok (.aload_n 0, 1) := by decide +kernel
theorem dX11_takeStem_11 : decode cX11_takeStem 11 = .ok (.dup, 1) := by decide +kernel
theorem dX11_takeStem_12 : decode cX11_takeStem 12 = .ok (.getfield 139, 3) := by decide +kernel
theorem dX11_takeStem_15 : decode cX11_takeStem 15 = .ok (.iconst 1, 1) := by decide +kernel
theorem dX11_takeStem_16 : decode cX11_takeStem 16 = .ok (.iadd, 1) := by decide +kernel
theorem dX11_takeStem_17 : decode cX11_takeStem 17 = .ok (.putfield 139, 3) := by decide +kernel
theorem dX11_takeStem_20 : decode cX11_takeStem 20 = .ok (.aload_n 0, 1) := by decide +kernel
theorem dX11_takeStem_21 : decode cX11_takeStem 21 = .ok (.aload_n 0, 1) := by decide +kernel
theorem dX11_takeStem_22 : decode cX11_takeStem 22 = .ok (.getfield 44, 3) := by decide +kernel
theorem dX11_takeStem_25 : decode cX11_takeStem 25 = .ok (.aload_n 0, 1) := by decide +kernel
theorem dX11_takeStem_26 : decode cX11_takeStem 26 = .ok (.getfield 139, 3) := by decide +kernel
theorem dX11_takeStem_29 : decode cX11_takeStem 29 = .ok (.iconst 1, 1) := by decide +kernel
theorem dX11_takeStem_30 : decode cX11_takeStem 30 = .ok (.isub, 1) := by decide +kernel
theorem dX11_takeStem_31 : decode cX11_takeStem 31 = .ok (.iconst 1, 1) := by decide +kernel
theorem dX11_takeStem_32 : decode cX11_takeStem 32 = .ok (.bipush 9, 2) := by decide +kernel
theorem dX11_takeStem_34 : decode cX11_takeStem 34 = .ok (.invokevirtual 135, 3) := by decide +kernel
theorem dX11_takeStem_37 : decode cX11_takeStem 37 = .ok (.ireturn, 1) := by decide +kernel
theorem dX11_takeEnding_0 : decode cX11_takeEnding 0 = .ok (.aload_n 0, 1) := by decide +kernel
theorem dX11_takeEnding_1 : decode cX11_takeEnding 1 = .ok (.dup, 1) := by decide +kernel
theorem dX11_takeEnding_2 : decode cX11_takeEnding 2 = .ok (.getfield 142, 3) := by decide +kernel
theorem dX11_takeEnding_5 : decode cX11_takeEnding 5 = .ok (.iconst 1, 1) := by decide +kernel
theorem dX11_takeEnding_6 : decode cX11_takeEnding 6 = .ok (.iadd, 1) := by decide +kernel
theorem dX11_takeEnding_7 : decode cX11_takeEnding 7 = .ok (.putfield 142, 3) := by decide +kernel
theorem dX11_takeEnding_10 : decode cX11_takeEnding 10 = .ok (.aload_n 0, 1) := by decide +kernel
theorem dX11_takeEnding_11 : decode cX11_takeEnding 11 = .ok (.aload_n 0, 1) := by decide +kernel
theorem dX11_takeEnding_12 : decode cX11_takeEnding 12 = .ok (.getfield 47, 3) := by decide +kernel
theorem dX11_takeEnding_15 : decode cX11_takeEnding 15 = .ok (.aload_n 0, 1) := by decide +kernel
theorem dX11_takeEnding_16 : decode cX11_takeEnding 16 = .ok (.getfield 142, 3) := by decide +kernel
theorem dX11_takeEnding_19 : decode cX11_takeEnding 19 = .ok (.iconst 1, 1) := by decide +kernel
theorem dX11_takeEnding_20 : decode cX11_takeEnding 20 = .ok (.isub, 1) := by decide +kernel
theorem dX11_takeEnding_21 : decode cX11_takeEnding 21 = .ok (.iconst 1, 1) := by decide +kernel
theorem dX11_takeEnding_22 : decode cX11_takeEnding 22 = .ok (.iconst 5, 1) := by decide +kernel
theorem dX11_takeEnding_23 : decode cX11_takeEnding 23 = .ok (.invokevirtual 135, 3) := by decide +kernel
theorem dX11_takeEnding_26 : decode cX11_takeEnding 26 = .ok (.ireturn, 1) := by decide +kernel
theorem dX11_takeSpeaker_0 : decode cX11_takeSpeaker 0 = .ok (.aload_n 0, 1) := by decide +kernel
theorem dX11_takeSpeaker_1 : decode cX11_takeSpeaker 1 = .ok (.getfield 145, 3) := by decide +kernel
theorem dX11_takeSpeaker_4 : decode cX11_takeSpeaker 4 = .ok (.istore_n 1, 1) := by decide +kernel
theorem dX11_takeSpeaker_5 : decode cX11_takeSpeaker 5 = .ok (.aload_n 0, 1) := by decide +kernel
theorem dX11_takeSpeaker_6 : decode cX11_takeSpeaker 6 = .ok (.dup, 1) := by decide +kernel
theorem dX11_takeSpeaker_7 : decode cX11_takeSpeaker 7 = .ok (.getfield 145, 3) := by decide +kernel
theorem dX11_takeSpeaker_10 : decode cX11_takeSpeaker 10 = .ok (.iconst 1, 1) := by decide +kernel
theorem dX11_takeSpeaker_11 : decode cX11_takeSpeaker 11 = .ok (.iadd, 1) := by decide +kernel
theorem dX11_takeSpeaker_12 : decode cX11_takeSpeaker 12 = .ok (.putfield 145, 3) := by decide +kernel
theorem dX11_takeSpeaker_15 : decode cX11_takeSpeaker 15 = .ok (.aload_n 0, 1) := by decide +kernel
theorem dX11_takeSpeaker_16 : decode cX11_takeSpeaker 16 = .ok (.aload_n 0, 1) := by decide +kernel
theorem dX11_takeSpeaker_17 : decode cX11_takeSpeaker 17 = .ok (.getfield 50, 3) := by decide +kernel
theorem dX11_takeSpeaker_20 : decode cX11_takeSpeaker 20 = .ok (.iload_n 1, 1) := by decide +kernel
theorem dX11_takeSpeaker_21 : decode cX11_takeSpeaker 21 = .ok (.iconst 0, 1) := by decide +kernel
theorem dX11_takeSpeaker_22 : decode cX11_takeSpeaker 22 = .ok (.iconst 1, 1) := by decide +kernel
theorem dX11_takeSpeaker_23 : decode cX11_takeSpeaker 23 = .ok (.invokevirtual 135, 3) := by decide +kernel
theorem dX11_takeSpeaker_26 : decode cX11_takeSpeaker 26 = .ok (.istore_n 2, 1) := by decide +kernel
theorem dX11_takeSpeaker_27 : decode cX11_takeSpeaker 27 = .ok (.iload_n 2, 1) := by decide +kernel
theorem dX11_takeSpeaker_28 : decode cX11_takeSpeaker 28 = .ok (.ifCond .le 7, 3) := by decide +kernel
theorem dX11_takeSpeaker_31 : decode cX11_takeSpeaker 31 = .ok (.iload_n 2, 1) := by decide +kernel
theorem dX11_takeSpeaker_32 : decode cX11_takeSpeaker 32 = .ok (.goto 15, 3) := by decide +kernel
theorem dX11_takeSpeaker_35 : decode cX11_takeSpeaker 35 = .ok (.aload_n 0, 1) := by decide +kernel
theorem dX11_takeSpeaker_36 : decode cX11_takeSpeaker 36 = .ok (.aload_n 0, 1) := by decide +kernel
theorem dX11_takeSpeaker_37 : decode cX11_takeSpeaker 37 = .ok (.getfield 53, 3) := by decide +kernel
theorem dX11_takeSpeaker_40 : decode cX11_takeSpeaker 40 = .ok (.iload_n 1, 1) := by decide +kernel
theorem dX11_takeSpeaker_41 : decode cX11_takeSpeaker 41 = .ok (.iconst 1, 1) := by decide +kernel
theorem dX11_takeSpeaker_42 : decode cX11_takeSpeaker 42 = .ok (.bipush 40, 2) := by decide +kernel
theorem dX11_takeSpeaker_44 : decode cX11_takeSpeaker 44 = .ok (.invokevirtual 135, 3) := by decide +kernel
theorem dX11_takeSpeaker_47 : decode cX11_takeSpeaker 47 = .ok (.istore_n 2, 1) := by decide +kernel
theorem dX11_takeSpeaker_48 : decode cX11_takeSpeaker 48 = .ok (.iload_n 2, 1) := by decide +kernel
theorem dX11_takeSpeaker_49 : decode cX11_takeSpeaker 49 = .ok (.ifCond .le 7, 3) := by decide +kernel
theorem dX11_takeSpeaker_52 : decode cX11_takeSpeaker 52 = .ok (.iload_n 2, 1) := by decide +kernel
theorem dX11_takeSpeaker_53 : decode cX11_takeSpeaker 53 = .ok (.goto 15, 3) := by decide +kernel
theorem dX11_takeSpeaker_56 : decode cX11_takeSpeaker 56 = .ok (.aload_n 0, 1) := by decide +kernel
theorem dX11_takeSpeaker_57 : decode cX11_takeSpeaker 57 = .ok (.aload_n 0, 1) := by decide +kernel
theorem dX11_takeSpeaker_58 : decode cX11_takeSpeaker 58 = .ok (.getfield 56, 3) := by decide +kernel
theorem dX11_takeSpeaker_61 : decode cX11_takeSpeaker 61 = .ok (.iload_n 1, 1) := by decide +kernel
theorem dX11_takeSpeaker_62 : decode cX11_takeSpeaker 62 = .ok (.iconst 0, 1) := by decide +kernel
theorem dX11_takeSpeaker_63 : decode cX11_takeSpeaker 63 = .ok (.bipush 99, 2) := by decide +kernel
theorem dX11_takeSpeaker_65 : decode cX11_takeSpeaker 65 = .ok (.invokevirtual 135, 3) := by decide +kernel
theorem dX11_takeSpeaker_68 : decode cX11_takeSpeaker 68 = .ok (.istore_n 2, 1) := by decide +kernel
theorem dX11_takeSpeaker_69 : decode cX11_takeSpeaker 69 = .ok (.iload_n 2, 1) := by decide +kernel
theorem dX11_takeSpeaker_70 : decode cX11_takeSpeaker 70 = .ok (.ifCond .le 7, 3) := by decide +kernel
theorem dX11_takeSpeaker_73 : decode cX11_takeSpeaker 73 = .ok (.iload_n 2, 1) := by decide +kernel
theorem dX11_takeSpeaker_74 : decode cX11_takeSpeaker 74 = .ok (.goto 15, 3) := by decide +kernel
theorem dX11_takeSpeaker_77 : decode cX11_takeSpeaker 77 = .ok (.aload_n 0, 1) := by decide +kernel
theorem dX11_takeSpeaker_78 : decode cX11_takeSpeaker 78 = .ok (.aload_n 0, 1) := by decide +kernel
theorem dX11_takeSpeaker_79 : decode cX11_takeSpeaker 79 = .ok (.getfield 59, 3) := by decide +kernel
theorem dX11_takeSpeaker_82 : decode cX11_takeSpeaker 82 = .ok (.iload_n 1, 1) := by decide +kernel
theorem dX11_takeSpeaker_83 : decode cX11_takeSpeaker 83 = .ok (.iconst 0, 1) := by decide +kernel
theorem dX11_takeSpeaker_84 : decode cX11_takeSpeaker 84 = .ok (.bipush 100, 2) := by decide +kernel
theorem dX11_takeSpeaker_86 : decode cX11_takeSpeaker 86 = .ok (.invokevirtual 135, 3) := by decide +kernel
theorem dX11_takeSpeaker_89 : decode cX11_takeSpeaker 89 = .ok (.ireturn, 1) := by decide +kernel
theorem dX11_takeBar_0 : decode cX11_takeBar 0 = .ok (.aload_n 0, 1) := by decide +kernel
theorem dX11_takeBar_1 : decode cX11_takeBar 1 = .ok (.dup, 1) := by decide +kernel
theorem dX11_takeBar_2 : decode cX11_takeBar 2 = .ok (.getfield 148, 3) := by decide +kernel
theorem dX11_takeBar_5 : decode cX11_takeBar 5 = .ok (.iconst 1, 1) := by decide +kernel
theorem dX11_takeBar_6 : decode cX11_takeBar 6 = .ok (.iadd, 1) := by decide +kernel
theorem dX11_takeBar_7 : decode cX11_takeBar 7 = .ok (.putfield 148, 3) := by decide +kernel
theorem dX11_takeBar_10 : decode cX11_takeBar 10 = .ok (.aload_n 0, 1) := by decide +kernel
theorem dX11_takeBar_11 : decode cX11_takeBar 11 = .ok (.iconst 0, 1) := by decide +kernel
theorem dX11_takeBar_12 : decode cX11_takeBar 12 = .ok (.aload_n 0, 1) := by decide +kernel
theorem dX11_takeBar_13 : decode cX11_takeBar 13 = .ok (.getfield 139, 3) := by decide +kernel
theorem dX11_takeBar_16 : decode cX11_takeBar 16 = .ok (.iconst 1, 1) := by decide +kernel
theorem dX11_takeBar_17 : decode cX11_takeBar 17 = .ok (.isub, 1) := by decide +kernel
theorem dX11_takeBar_18 : decode cX11_takeBar 18 = .ok (.invokevirtual 132, 3) := by decide +kernel
theorem dX11_takeBar_21 : decode cX11_takeBar 21 = .ok (.istore_n 1, 1) := by decide +kernel
theorem dX11_takeBar_22 : decode cX11_takeBar 22 = .ok (.aload_n 0, 1) := by decide +kernel
theorem dX11_takeBar_23 : decode cX11_takeBar 23 = .ok (.getfield 129, 3) := by decide +kernel
theorem dX11_takeBar_26 : decode cX11_takeBar 26 = .ok (.istore_n 2, 1) := by decide +kernel
theorem dX11_takeBar_27 : decode cX11_takeBar 27 = .ok (.iload_n 1, 1) := by decide +kernel
theorem dX11_takeBar_28 : decode cX11_takeBar 28 = .ok (.ifCond .le 7, 3) := by decide +kernel
theorem dX11_takeBar_31 : decode cX11_takeBar 31 = .ok (.iload_n 1, 1) := by decide +kernel
theorem dX11_takeBar_32 : decode cX11_takeBar 32 = .ok (.goto 14, 3) := by decide +kernel
theorem dX11_takeBar_35 : decode cX11_takeBar 35 = .ok (.aload_n 0, 1) := by decide +kernel
theorem dX11_takeBar_36 : decode cX11_takeBar 36 = .ok (.iconst 0, 1) := by decide +kernel
theorem dX11_takeBar_37 : decode cX11_takeBar 37 = .ok (.aload_n 0, 1) := by decide +kernel
theorem dX11_takeBar_38 : decode cX11_takeBar 38 = .ok (.getfield 139, 3) := by decide +kernel
theorem dX11_takeBar_41 : decode cX11_takeBar 41 = .ok (.iconst 1, 1) := by decide +kernel
theorem dX11_takeBar_42 : decode cX11_takeBar 42 = .ok (.isub, 1) := by decide +kernel
theorem dX11_takeBar_43 : decode cX11_takeBar 43 = .ok (.invokevirtual 132, 3) := by decide +kernel
theorem dX11_takeBar_46 : decode cX11_takeBar 46 = .ok (.istore_n 1, 1) := by decide +kernel
theorem dX11_takeBar_47 : decode cX11_takeBar 47 = .ok (.iload_n 1, 1) := by decide +kernel
theorem dX11_takeBar_48 : decode cX11_takeBar 48 = .ok (.ifCond .ne 29, 3) := by decide +kernel
theorem dX11_takeBar_51 : decode cX11_takeBar 51 = .ok (.aload_n 0, 1) := by decide +kernel
theorem dX11_takeBar_52 : decode cX11_takeBar 52 = .ok (.getfield 62, 3) := by decide +kernel
theorem dX11_takeBar_55 : decode cX11_takeBar 55 = .ok (.iload_n 2, 1) := by decide +kernel
theorem dX11_takeBar_56 : decode cX11_takeBar 56 = .ok (.iaload, 1) := by decide +kernel
theorem dX11_takeBar_57 : decode cX11_takeBar 57 = .ok (.aload_n 0, 1) := by decide +kernel
theorem dX11_takeBar_58 : decode cX11_takeBar 58 = .ok (.getfield 129, 3) := by decide +kernel
theorem dX11_takeBar_61 : decode cX11_takeBar 61 = .ok (.invokestatic 151, 3) := by decide +kernel
theorem dX11_takeBar_64 : decode cX11_takeBar 64 = .ok (.ifCond .eq 13, 3) := by decide +kernel
theorem dX11_takeBar_67 : decode cX11_takeBar 67 = .ok (.aload_n 0, 1) := by decide +kernel
theorem dX11_takeBar_68 : decode cX11_takeBar 68 = .ok (.iconst 4, 1) := by decide +kernel
theorem dX11_takeBar_69 : decode cX11_takeBar 69 = .ok (.aload_n 0, 1) := by decide +kernel
theorem dX11_takeBar_70 : decode cX11_takeBar 70 = .ok (.getfield 126, 3) := by decide +kernel
theorem dX11_takeBar_73 : decode cX11_takeBar 73 = .ok (.invokevirtual 122, 3) := by decide +kernel
theorem dX11_takeBar_76 : decode cX11_takeBar 76 = .ok (.ireturn, 1) := by decide +kernel
theorem dX11_takeBar_77 : decode cX11_takeBar 77 = .ok (.iload_n 1, 1) := by decide +kernel
theorem dX11_takeBar_78 : decode cX11_takeBar 78 = .ok (.ifCond .ne 18, 3) := by decide +kernel
theorem dX11_takeBar_81 : decode cX11_takeBar 81 = .ok (.aload_n 0, 1) := by decide +kernel
theorem dX11_takeBar_82 : decode cX11_takeBar 82 = .ok (.getfield 62, 3) := by decide +kernel
theorem dX11_takeBar_85 : decode cX11_takeBar 85 = .ok (.iload_n 2, 1) := by decide +kernel
theorem dX11_takeBar_86 : decode cX11_takeBar 86 = .ok (.dup2, 1) := by decide +kernel
theorem dX11_takeBar_87 : decode cX11_takeBar 87 = .ok (.iaload, 1) := by decide +kernel
theorem dX11_takeBar_88 : decode cX11_takeBar 88 = .ok (.iconst 1, 1) := by decide +kernel
theorem dX11_takeBar_89 : decode cX11_takeBar 89 = .ok (.aload_n 0, 1) := by decide +kernel
theorem dX11_takeBar_90 : decode cX11_takeBar 90 = .ok (.getfield 129, 3) := by decide +kernel
theorem dX11_takeBar_93 : decode cX11_takeBar 93 = .ok (.ishl, 1) := by decide +kernel
theorem dX11_takeBar_94 : decode cX11_takeBar 94 = .ok (.ior, 1) := by decide +kernel
theorem dX11_takeBar_95 : decode cX11_takeBar 95 = .ok (.iastore, 1) := by decide +kernel
theorem dX11_takeBar_96 : decode cX11_takeBar 96 = .ok (.iload_n 1, 1) := by decide +kernel
theorem dX11_takeBar_97 : decode cX11_takeBar 97 = .ok (.ireturn, 1) := by decide +kernel
theorem dX11_takeClause_0 : decode cX11_takeClause 0 = .ok (.aload_n 0, 1) := by decide +kernel
theorem dX11_takeClause_1 : decode cX11_takeClause 1 = .ok (.invokevirtual 114, 3) := by decide +kernel
theorem dX11_takeClause_4 : decode cX11_takeClause 4 = .ok (.istore_n 1, 1) := by decide +kernel
theorem dX11_takeClause_5 : decode cX11_takeClause 5 = .ok (.iload_n 1, 1) := by decide +kernel
theorem dX11_takeClause_6 : decode cX11_takeClause 6 = .ok (.bipush 103, 2) := by decide +kernel
theorem dX11_takeClause_8 : decode cX11_takeClause 8 = .ok (.if_icmp .ne 7, 3) := by decide +kernel
theorem dX11_takeClause_11 : decode cX11_takeClause 11 = .ok (.iconst 0, 1) := by decide +kernel
theorem dX11_takeClause_12 : decode cX11_takeClause 12 = .ok (.goto 44, 3) := by decide +kernel
theorem dX11_takeClause_15 : decode cX11_takeClause 15 = .ok (.iload_n 1, 1) := by decide +kernel
theorem dX11_takeClause_16 : decode cX11_takeClause 16 = .ok (.bipush 115, 2) := by decide +kernel
theorem dX11_takeClause_18 : decode cX11_takeClause 18 = .ok (.if_icmp .ne 7, 3) := by decide +kernel
theorem dX11_takeClause_21 : decode cX11_takeClause 21 = .ok (.iconst 1, 1) := by decide +kernel
theorem dX11_takeClause_22 : decode cX11_takeClause 22 = .ok (.goto 34, 3) := by decide +kernel
theorem dX11_takeClause_25 : decode cX11_takeClause 25 = .ok (.iload_n 1, 1) := by decide +kernel
theorem dX11_takeClause_26 : decode cX11_takeClause 26 = .ok (.bipush 101, 2) := by decide +kernel
theorem dX11_takeClause_28 : decode cX11_takeClause 28 = .ok (.if_icmp .ne 7, 3) := by decide +kernel
theorem dX11_takeClause_31 : decode cX11_takeClause 31 = .ok (.iconst 2, 1) := by decide +kernel
theorem dX11_takeClause_32 : decode cX11_takeClause 32 = .ok (.goto 24, 3) := by decide +kernel
theorem dX11_takeClause_35 : decode cX11_takeClause 35 = .ok (.iload_n 1, 1) := by decide +kernel
theorem dX11_takeClause_36 : decode cX11_takeClause 36 = .ok (.bipush 112, 2) := by decide +kernel
theorem dX11_takeClause_38 : decode cX11_takeClause 38 = .ok (.if_icmp .ne 7, 3) := by decide +kernel
theorem dX11_takeClause_41 : decode cX11_takeClause 41 = .ok (.iconst 3, 1) := by decide +kernel
theorem dX11_takeClause_42 : decode cX11_takeClause 42 = .ok (.goto 14, 3) := by decide +kernel
theorem dX11_takeClause_45 : decode cX11_takeClause 45 = .ok (.iload_n 1, 1) := by decide +kernel
theorem dX11_takeClause_46 : decode cX11_takeClause 46 = .ok (.bipush 110, 2) := by decide +kernel
theorem dX11_takeClause_48 : decode cX11_takeClause 48 = .ok (.if_icmp .ne 7, 3) := by decide +kernel
theorem dX11_takeClause_51 : decode cX11_takeClause 51 = .ok (.iconst 4, 1) := by decide +kernel
theorem dX11_takeClause_52 : decode cX11_takeClause 52 = .ok (.goto 4, 3) := by decide +kernel
theorem dX11_takeClause_55 : decode cX11_takeClause 55 = .ok (.iconst (-1), 1) := by decide +kernel
theorem dX11_takeClause_56 : decode cX11_takeClause 56 = .ok (.istore_n 2, 1) := by decide +kernel
theorem dX11_takeClause_57 : decode cX11_takeClause 57 = .ok (.iload_n 2, 1) := by decide +kernel
theorem dX11_takeClause_58 : decode cX11_takeClause 58 = .ok (.ifCond .lt 16, 3) := by decide +kernel
theorem dX11_takeClause_61 : decode cX11_takeClause 61 = .ok (.iload_n 2, 1) := by decide +kernel
theorem dX11_takeClause_62 : decode cX11_takeClause 62 = .ok (.ifCond .le 22, 3) := by decide +kernel
theorem dX11_takeClause_65 : decode cX11_takeClause 65 = .ok (.aload_n 0, 1) := by decide +kernel
theorem dX11_takeClause_66 : decode cX11_takeClause 66 = .ok (.getfield 41, 3) := by decide +kernel
theorem dX11_takeClause_69 : decode cX11_takeClause 69 = .ok (.iconst 0, 1) := by decide +kernel
theorem dX11_takeClause_70 : decode cX11_takeClause 70 = .ok (.iaload, 1) := by decide +kernel
theorem dX11_takeClause_71 : decode cX11_takeClause 71 = .ok (.ifCond .ne 13, 3) := by decide +kernel
theorem dX11_takeClause_74 : decode cX11_takeClause 74 = .ok (.aload_n 0, 1) := by decide +kernel
theorem dX11_takeClause_75 : decode cX11_takeClause 75 = .ok (.iconst 1, 1) := by decide +kernel
theorem dX11_takeClause_76 : decode cX11_takeClause 76 = .ok (.aload_n 0, 1) := by decide +kernel
theorem dX11_takeClause_77 : decode cX11_takeClause 77 = .ok (.getfield 111, 3) := by decide +kernel
theorem dX11_takeClause_80 : decode cX11_takeClause 80 = .ok (.invokevirtual 122, 3) := by decide +kernel
theorem dX11_takeClause_83 : decode cX11_takeClause 83 = .ok (.ireturn, 1) := by decide +kernel
theorem dX11_takeClause_84 : decode cX11_takeClause 84 = .ok (.iload_n 2, 1) := by decide +kernel
theorem dX11_takeClause_85 : decode cX11_takeClause 85 = .ok (.ifCond .ne 20, 3) := by decide +kernel
theorem dX11_takeClause_88 : decode cX11_takeClause 88 = .ok (.aload_n 0, 1) := by decide +kernel
theorem dX11_takeClause_89 : decode cX11_takeClause 89 = .ok (.getfield 41, 3) := by decide +kernel
theorem dX11_takeClause_92 : decode cX11_takeClause 92 = .ok (.iconst 0, 1) := by decide +kernel
theorem dX11_takeClause_93 : decode cX11_takeClause 93 = .ok (.iaload, 1) := by decide +kernel
theorem dX11_takeClause_94 : decode cX11_takeClause 94 = .ok (.ifCond .le 7, 3) := by decide +kernel
theorem dX11_takeClause_97 : decode cX11_takeClause 97 = .ok (.iconst 1, 1) := by decide +kernel
theorem dX11_takeClause_98 : decode cX11_takeClause 98 = .ok (.goto 86, 3) := by decide +kernel
theorem dX11_takeClause_101 : decode cX11_takeClause 101 = .ok (.iconst 0, 1) := by decide +kernel
theorem dX11_takeClause_102 : decode cX11_takeClause 102 = .ok (.goto 82, 3) := by decide +kernel
theorem dX11_takeClause_105 : decode cX11_takeClause 105 = .ok (.iload_n 2, 1) := by decide +kernel
theorem dX11_takeClause_106 : decode cX11_takeClause 106 = .ok (.iconst 1, 1) := by decide +kernel
theorem dX11_takeClause_107 : decode cX11_takeClause 107 = .ok (.if_icmp .ne 20, 3) := by decide +kernel
theorem dX11_takeClause_110 : decode cX11_takeClause 110 = .ok (.aload_n 0, 1) := by decide +kernel
theorem dX11_takeClause_111 : decode cX11_takeClause 111 = .ok (.getfield 139, 3) := by decide +kernel
theorem dX11_takeClause_114 : decode cX11_takeClause 114 = .ok (.bipush 6, 2) := by decide +kernel
theorem dX11_takeClause_116 : decode cX11_takeClause 116 = .ok (.if_icmp .ne 7, 3) := by decide +kernel
theorem dX11_takeClause_119 : decode cX11_takeClause 119 = .ok (.iconst 1, 1) := by decide +kernel
theorem dX11_takeClause_120 : decode cX11_takeClause 120 = .ok (.goto 64, 3) := by decide +kernel
theorem dX11_takeClause_123 : decode cX11_takeClause 123 = .ok (.iconst 0, 1) := by decide +kernel
theorem dX11_takeClause_124 : decode cX11_takeClause 124 = .ok (.goto 60, 3) := by decide +kernel
theorem dX11_takeClause_127 : decode cX11_takeClause 127 = .ok (.iload_n 2, 1) := by decide +kernel
theorem dX11_takeClause_128 : decode cX11_takeClause 128 = .ok (.iconst 2, 1) := by decide +kernel
theorem dX11_takeClause_129 : decode cX11_takeClause 129 = .ok (.if_icmp .ne 19, 3) := by decide +kernel
theorem dX11_takeClause_132 : decode cX11_takeClause 132 = .ok (.aload_n 0, 1) := by decide +kernel
theorem dX11_takeClause_133 : decode cX11_takeClause 133 = .ok (.getfield 142, 3) := by decide +kernel
theorem dX11_takeClause_136 : decode cX11_takeClause 136 = .ok (.iconst 4, 1) := by decide +kernel
theorem dX11_takeClause_137 : decode cX11_takeClause 137 = .ok (.if_icmp .ne 7, 3) := by decide +kernel
theorem dX11_takeClause_140 : decode cX11_takeClause 140 = .ok (.iconst 1, 1) := by decide +kernel
theorem dX11_takeClause_141 : decode cX11_takeClause 141 = .ok (.goto 43, 3) := by decide +kernel
theorem dX11_takeClause_144 : decode cX11_takeClause 144 = .ok (.iconst 0, 1) := by decide +kernel
theorem dX11_takeClause_145 : decode cX11_takeClause 145 = .ok (.goto 39, 3) := by decide +kernel
theorem dX11_takeClause_148 : decode cX11_takeClause 148 = .ok (.iload_n 2, 1) := by decide +kernel
theorem dX11_takeClause_149 : decode cX11_takeClause 149 = .ok (.iconst 3, 1) := by decide +kernel
theorem dX11_takeClause_150 : decode cX11_takeClause 150 = .ok (.if_icmp .ne 20, 3) := by decide +kernel
theorem dX11_takeClause_153 : decode cX11_takeClause 153 = .ok (.aload_n 0, 1) := by decide +kernel
theorem dX11_takeClause_154 : decode cX11_takeClause 154 = .ok (.getfield 145, 3) := by decide +kernel
theorem dX11_takeClause_157 : decode cX11_takeClause 157 = .ok (.bipush 10, 2) := by decide +kernel
theorem dX11_takeClause_159 : decode cX11_takeClause 159 = .ok (.if_icmp .ne 7, 3) := by decide +kernel
theorem dX11_takeClause_162 : decode cX11_takeClause 162 = .ok (.iconst 1, 1) := by decide +kernel
theorem dX11_takeClause_163 : decode cX11_takeClause 163 = .ok (.goto 21, 3) := by decide +kernel
theorem dX11_takeClause_166 : decode cX11_takeClause 166 = .ok (.iconst 0, 1) := by decide +kernel
theorem dX11_takeClause_167 : decode cX11_takeClause 167 = .ok (.goto 17, 3) := by decide +kernel
theorem dX11_takeClause_170 : decode cX11_takeClause 170 = .ok (.aload_n 0, 1) := by decide +kernel
theorem dX11_takeClause_171 : decode cX11_takeClause 171 = .ok (.getfield 148, 3) := by decide +kernel
theorem dX11_takeClause_174 : decode cX11_takeClause 174 = .ok (.bipush 6, 2) := by decide +kernel
theorem dX11_takeClause_176 : decode cX11_takeClause 176 = .ok (.if_icmp .ne 7, 3) := by decide +kernel
theorem dX11_takeClause_179 : decode cX11_takeClause 179 = .ok (.iconst 1, 1) := by decide +kernel
theorem dX11_takeClause_180 : decode cX11_takeClause 180 = .ok (.goto 4, 3) := by decide +kernel
theorem dX11_takeClause_183 : decode cX11_takeClause 183 = .ok (.iconst 0, 1) := by decide +kernel
theorem dX11_takeClause_184 : decode cX11_takeClause 184 = .ok (.istore_n 3, 1) := by decide +kernel
theorem dX11_takeClause_185 : decode cX11_takeClause 185 = .ok (.iload_n 3, 1) := by decide +kernel
theorem dX11_takeClause_186 : decode cX11_takeClause 186 = .ok (.ifCond .eq 13, 3) := by decide +kernel
theorem dX11_takeClause_189 : decode cX11_takeClause 189 = .ok (.aload_n 0, 1) := by decide +kernel
theorem dX11_takeClause_190 : decode cX11_takeClause 190 = .ok (.iconst 3, 1) := by decide +kernel
theorem dX11_takeClause_191 : decode cX11_takeClause 191 = .ok (.aload_n 0, 1) := by decide +kernel
theorem dX11_takeClause_192 : decode cX11_takeClause 192 = .ok (.getfield 111, 3) := by decide +kernel
theorem dX11_takeClause_195 : decode cX11_takeClause 195 = .ok (.invokevirtual 122, 3) := by decide +kernel
theorem dX11_takeClause_198 : decode cX11_takeClause 198 = .ok (.ireturn, 1) := by decide +kernel
theorem dX11_takeClause_199 : decode cX11_takeClause 199 = .ok (.aload_n 0, 1) := by decide +kernel
theorem dX11_takeClause_200 : decode cX11_takeClause 200 = .ok (.dup, 1) := by decide +kernel
theorem dX11_takeClause_201 : decode cX11_takeClause 201 = .ok (.getfield 111, 3) := by decide +kernel
theorem dX11_takeClause_204 : decode cX11_takeClause 204 = .ok (.iconst 1, 1) := by decide +kernel
theorem dX11_takeClause_205 : decode cX11_takeClause 205 = .ok (.iadd, 1) := by decide +kernel
theorem dX11_takeClause_206 : decode cX11_takeClause 206 = .ok (.putfield 111, 3) := by decide +kernel
theorem dX11_takeClause_209 : decode cX11_takeClause 209 = .ok (.iload_n 2, 1) := by decide +kernel
theorem dX11_takeClause_210 : decode cX11_takeClause 210 = .ok (.ifCond .ne 10, 3) := by decide +kernel
theorem dX11_takeClause_213 : decode cX11_takeClause 213 = .ok (.aload_n 0, 1) := by decide +kernel
theorem dX11_takeClause_214 : decode cX11_takeClause 214 = .ok (.invokevirtual 155, 3) := by decide +kernel
theorem dX11_takeClause_217 : decode cX11_takeClause 217 = .ok (.goto 43, 3) := by decide +kernel
theorem dX11_takeClause_220 : decode cX11_takeClause 220 = .ok (.iload_n 2, 1) := by decide +kernel
theorem dX11_takeClause_221 : decode cX11_takeClause 221 = .ok (.iconst 1, 1) := by decide +kernel
theorem dX11_takeClause_222 : decode cX11_takeClause 222 = .ok (.if_icmp .ne 10, 3) := by decide +kernel
theorem dX11_takeClause_225 : decode cX11_takeClause 225 = .ok (.aload_n 0, 1) := by decide +kernel
theorem dX11_takeClause_226 : decode cX11_takeClause 226 = .ok (.invokevirtual 158, 3) := by decide +kernel
theorem dX11_takeClause_229 : decode cX11_takeClause 229 = .ok (.goto 31, 3) := by decide +kernel
theorem dX11_takeClause_232 : decode cX11_takeClause 232 = .ok (.iload_n 2, 1) := by decide +kernel
theorem dX11_takeClause_233 : decode cX11_takeClause 233 = .ok (.iconst 2, 1) := by decide +kernel
theorem dX11_takeClause_234 : decode cX11_takeClause 234 = .ok (.if_icmp .ne 10, 3) := by decide +kernel
theorem dX11_takeClause_237 : decode cX11_takeClause 237 = .ok (.aload_n 0, 1) := by decide +kernel
theorem dX11_takeClause_238 : decode cX11_takeClause 238 = .ok (.invokevirtual 161, 3) := by decide +kernel
theorem dX11_takeClause_241 : decode cX11_takeClause 241 = .ok (.goto 19, 3) := by decide +kernel
theorem dX11_takeClause_244 : decode cX11_takeClause 244 = .ok (.iload_n 2, 1) := by decide +kernel
theorem dX11_takeClause_245 : decode cX11_takeClause 245 = .ok (.iconst 3, 1) := by decide +kernel
theorem dX11_takeClause_246 : decode cX11_takeClause 246 = .ok (.if_icmp .ne 10, 3) := by decide +kernel
theorem dX11_takeClause_249 : decode cX11_takeClause 249 = .ok (.aload_n 0, 1) := by decide +kernel
theorem dX11_takeClause_250 : decode cX11_takeClause 250 = .ok (.invokevirtual 164, 3) := by decide +kernel
theorem dX11_takeClause_253 : decode cX11_takeClause 253 = .ok (.goto 7, 3) := by decide +kernel
theorem dX11_takeClause_256 : decode cX11_takeClause 256 = .ok (.aload_n 0, 1) := by decide +kernel
theorem dX11_takeClause_257 : decode cX11_takeClause 257 = .ok (.invokevirtual 167, 3) := by decide +kernel
theorem dX11_takeClause_260 : decode cX11_takeClause 260 = .ok (.istore 4, 2) := by decide +kernel
theorem dX11_takeClause_262 : decode cX11_takeClause 262 = .ok (.iload 4, 2) := by decide +kernel
theorem dX11_takeClause_264 : decode cX11_takeClause 264 = .ok (.ifCond .ne 22, 3) := by decide +kernel
theorem dX11_takeClause_267 : decode cX11_takeClause 267 = .ok (.aload_n 0, 1) := by decide +kernel
theorem dX11_takeClause_268 : decode cX11_takeClause 268 = .ok (.invokevirtual 114, 3) := by decide +kernel
theorem dX11_takeClause_271 : decode cX11_takeClause 271 = .ok (.bipush 59, 2) := by decide +kernel
theorem dX11_takeClause_273 : decode cX11_takeClause 273 = .ok (.if_icmp .eq 13, 3) := by decide +kernel
theorem dX11_takeClause_276 : decode cX11_takeClause 276 = .ok (.aload_n 0, 1) := by decide +kernel
theorem dX11_takeClause_277 : decode cX11_takeClause 277 = .ok (.iconst 1, 1) := by decide +kernel
theorem dX11_takeClause_278 : decode cX11_takeClause 278 = .ok (.aload_n 0, 1) := by decide +kernel
theorem dX11_takeClause_279 : decode cX11_takeClause 279 = .ok (.getfield 111, 3) := by decide +kernel
theorem dX11_takeClause_282 : decode cX11_takeClause 282 = .ok (.invokevirtual 122, 3) := by decide +kernel
theorem dX11_takeClause_285 : decode cX11_takeClause 285 = .ok (.ireturn, 1) := by decide +kernel
theorem dX11_takeClause_286 : decode cX11_takeClause 286 = .ok (.aload_n 0, 1) := by decide +kernel
theorem dX11_takeClause_287 : decode cX11_takeClause 287 = .ok (.dup, 1) := by decide +kernel
theorem dX11_takeClause_288 : decode cX11_takeClause 288 = .ok (.getfield 111, 3) := by decide +kernel
theorem dX11_takeClause_291 : decode cX11_takeClause 291 = .ok (.iconst 1, 1) := by decide +kernel
theorem dX11_takeClause_292 : decode cX11_takeClause 292 = .ok (.iadd, 1) := by decide +kernel
theorem dX11_takeClause_293 : decode cX11_takeClause 293 = .ok (.putfield 111, 3) := by decide +kernel
theorem dX11_takeClause_296 : decode cX11_takeClause 296 = .ok (.iload 4, 2) := by decide +kernel
theorem dX11_takeClause_298 : decode cX11_takeClause 298 = .ok (.ireturn, 1) := by decide +kernel
theorem dX11_takeRead_0 : decode cX11_takeRead 0 = .ok (.aload_n 0, 1) := by decide +kernel
theorem dX11_takeRead_1 : decode cX11_takeRead 1 = .ok (.aload_n 0, 1) := by decide +kernel
theorem dX11_takeRead_2 : decode cX11_takeRead 2 = .ok (.getfield 41, 3) := by decide +kernel
theorem dX11_takeRead_5 : decode cX11_takeRead 5 = .ok (.iconst 0, 1) := by decide +kernel
theorem dX11_takeRead_6 : decode cX11_takeRead 6 = .ok (.iaload, 1) := by decide +kernel
theorem dX11_takeRead_7 : decode cX11_takeRead 7 = .ok (.putfield 170, 3) := by decide +kernel
theorem dX11_takeRead_10 : decode cX11_takeRead 10 = .ok (.aload_n 0, 1) := by decide +kernel
theorem dX11_takeRead_11 : decode cX11_takeRead 11 = .ok (.aload_n 0, 1) := by decide +kernel
theorem dX11_takeRead_12 : decode cX11_takeRead 12 = .ok (.getfield 41, 3) := by decide +kernel
theorem dX11_takeRead_15 : decode cX11_takeRead 15 = .ok (.iconst 1, 1) := by decide +kernel
theorem dX11_takeRead_16 : decode cX11_takeRead 16 = .ok (.iaload, 1) := by decide +kernel
theorem dX11_takeRead_17 : decode cX11_takeRead 17 = .ok (.putfield 173, 3) := by decide +kernel
theorem dX11_takeRead_20 : decode cX11_takeRead 20 = .ok (.aload_n 0, 1) := by decide +kernel
theorem dX11_takeRead_21 : decode cX11_takeRead 21 = .ok (.aload_n 0, 1) := by decide +kernel
theorem dX11_takeRead_22 : decode cX11_takeRead 22 = .ok (.getfield 139, 3) := by decide +kernel
theorem dX11_takeRead_25 : decode cX11_takeRead 25 = .ok (.putfield 176, 3) := by decide +kernel
theorem dX11_takeRead_28 : decode cX11_takeRead 28 = .ok (.aload_n 0, 1) := by decide +kernel
theorem dX11_takeRead_29 : decode cX11_takeRead 29 = .ok (.aload_n 0, 1) := by decide +kernel
theorem dX11_takeRead_30 : decode cX11_takeRead 30 = .ok (.getfield 142, 3) := by decide +kernel
theorem dX11_takeRead_33 : decode cX11_takeRead 33 = .ok (.putfield 179, 3) := by decide +kernel
theorem dX11_takeRead_36 : decode cX11_takeRead 36 = .ok (.aload_n 0, 1) := by decide +kernel
theorem dX11_takeRead_37 : decode cX11_takeRead 37 = .ok (.aload_n 0, 1) := by decide +kernel
theorem dX11_takeRead_38 : decode cX11_takeRead 38 = .ok (.getfield 145, 3) := by decide +kernel
theorem dX11_takeRead_41 : decode cX11_takeRead 41 = .ok (.putfield 93, 3) := by decide +kernel
theorem dX11_takeRead_44 : decode cX11_takeRead 44 = .ok (.iconst 0, 1) := by decide +kernel
theorem dX11_takeRead_45 : decode cX11_takeRead 45 = .ok (.istore_n 1, 1) := by decide +kernel
theorem dX11_takeRead_46 : decode cX11_takeRead 46 = .ok (.iload_n 1, 1) := by decide +kernel
theorem dX11_takeRead_47 : decode cX11_takeRead 47 = .ok (.bipush 53, 2) := by decide +kernel
theorem dX11_takeRead_49 : decode cX11_takeRead 49 = .ok (.if_icmp .ge 16, 3) := by decide +kernel
theorem dX11_takeRead_52 : decode cX11_takeRead 52 = .ok (.aload_n 0, 1) := by decide +kernel
theorem dX11_takeRead_53 : decode cX11_takeRead 53 = .ok (.getfield 31, 3) := by decide +kernel
theorem dX11_takeRead_56 : decode cX11_takeRead 56 = .ok (.iload_n 1, 1) := by decide +kernel
theorem dX11_takeRead_57 : decode cX11_takeRead 57 = .ok (.iconst 0, 1) := by decide +kernel
theorem dX11_takeRead_58 : decode cX11_takeRead 58 = .ok (.iastore, 1) := by decide +kernel
theorem dX11_takeRead_59 : decode cX11_takeRead 59 = .ok (.iinc 1 1, 3) := by decide +kernel
theorem dX11_takeRead_62 : decode cX11_takeRead 62 = .ok (.goto (-16), 3) := by decide +kernel
theorem dX11_takeRead_65 : decode cX11_takeRead 65 = .ok (.iconst 0, 1) := by decide +kernel
theorem dX11_takeRead_66 : decode cX11_takeRead 66 = .ok (.istore_n 1, 1) := by decide +kernel
theorem dX11_takeRead_67 : decode cX11_takeRead 67 = .ok (.iload_n 1, 1) := by decide +kernel
theorem dX11_takeRead_68 : decode cX11_takeRead 68 = .ok (.aload_n 0, 1) := by decide +kernel
theorem dX11_takeRead_69 : decode cX11_takeRead 69 = .ok (.getfield 176, 3) := by decide +kernel
theorem dX11_takeRead_72 : decode cX11_takeRead 72 = .ok (.if_icmp .ge 33, 3) := by decide +kernel
theorem dX11_takeRead_75 : decode cX11_takeRead 75 = .ok (.aload_n 0, 1) := by decide +kernel
theorem dX11_takeRead_76 : decode cX11_takeRead 76 = .ok (.getfield 7, 3) := by decide +kernel
theorem dX11_takeRead_79 : decode cX11_takeRead 79 = .ok (.iload_n 1, 1) := by decide +kernel
theorem dX11_takeRead_80 : decode cX11_takeRead 80 = .ok (.aload_n 0, 1) := by decide +kernel
theorem dX11_takeRead_81 : decode cX11_takeRead 81 = .ok (.getfield 44, 3) := by decide +kernel
theorem dX11_takeRead_84 : decode cX11_takeRead 84 = .ok (.iload_n 1, 1) := by decide +kernel
theorem dX11_takeRead_85 : decode cX11_takeRead 85 = .ok (.iaload, 1) := by decide +kernel
theorem dX11_takeRead_86 : decode cX11_takeRead 86 = .ok (.iastore, 1) := by decide +kernel
theorem dX11_takeRead_87 : decode cX11_takeRead 87 = .ok (.aload_n 0, 1) := by decide +kernel
theorem dX11_takeRead_88 : decode cX11_takeRead 88 = .ok (.getfield 28, 3) := by decide +kernel
theorem dX11_takeRead_91 : decode cX11_takeRead 91 = .ok (.iload_n 1, 1) := by decide +kernel
theorem dX11_takeRead_92 : decode cX11_takeRead 92 = .ok (.aload_n 0, 1) := by decide +kernel
theorem dX11_takeRead_93 : decode cX11_takeRead 93 = .ok (.getfield 62, 3) := by decide +kernel
theorem dX11_takeRead_96 : decode cX11_takeRead 96 = .ok (.iload_n 1, 1) := by decide +kernel
theorem dX11_takeRead_97 : decode cX11_takeRead 97 = .ok (.iaload, 1) := by decide +kernel
theorem dX11_takeRead_98 : decode cX11_takeRead 98 = .ok (.iastore, 1) := by decide +kernel
theorem dX11_takeRead_99 : decode cX11_takeRead 99 = .ok (.iinc 1 1, 3) := by decide +kernel
theorem dX11_takeRead_102 : decode cX11_takeRead 102 = .ok (.goto (-35), 3) := by decide +kernel
theorem dX11_takeRead_105 : decode cX11_takeRead 105 = .ok (.iconst 0, 1) := by decide +kernel
theorem dX11_takeRead_106 : decode cX11_takeRead 106 = .ok (.istore_n 1, 1) := by decide +kernel
theorem dX11_takeRead_107 : decode cX11_takeRead 107 = .ok (.iload_n 1, 1) := by decide +kernel
theorem dX11_takeRead_108 : decode cX11_takeRead 108 = .ok (.aload_n 0, 1) := by decide +kernel
theorem dX11_takeRead_109 : decode cX11_takeRead 109 = .ok (.getfield 179, 3) := by decide +kernel
theorem dX11_takeRead_112 : decode cX11_takeRead 112 = .ok (.if_icmp .ge 21, 3) := by decide +kernel
theorem dX11_takeRead_115 : decode cX11_takeRead 115 = .ok (.aload_n 0, 1) := by decide +kernel
theorem dX11_takeRead_116 : decode cX11_takeRead 116 = .ok (.getfield 13, 3) := by decide +kernel
theorem dX11_takeRead_119 : decode cX11_takeRead 119 = .ok (.iload_n 1, 1) := by decide +kernel
theorem dX11_takeRead_120 : decode cX11_takeRead 120 = .ok (.aload_n 0, 1) := by decide +kernel
theorem dX11_takeRead_121 : decode cX11_takeRead 121 = .ok (.getfield 47, 3) := by decide +kernel
theorem dX11_takeRead_124 : decode cX11_takeRead 124 = .ok (.iload_n 1, 1) := by decide +kernel
theorem dX11_takeRead_125 : decode cX11_takeRead 125 = .ok (.iaload, 1) := by decide +kernel
theorem dX11_takeRead_126 : decode cX11_takeRead 126 = .ok (.iastore, 1) := by decide +kernel
theorem dX11_takeRead_127 : decode cX11_takeRead 127 = .ok (.iinc 1 1, 3) := by decide +kernel
theorem dX11_takeRead_130 : decode cX11_takeRead 130 = .ok (.goto (-23), 3) := by decide +kernel
theorem dX11_takeRead_133 : decode cX11_takeRead 133 = .ok (.iconst 0, 1) := by decide +kernel
theorem dX11_takeRead_134 : decode cX11_takeRead 134 = .ok (.istore_n 1, 1) := by decide +kernel
theorem dX11_takeRead_135 : decode cX11_takeRead 135 = .ok (.iload_n 1, 1) := by decide +kernel
theorem dX11_takeRead_136 : decode cX11_takeRead 136 = .ok (.aload_n 0, 1) := by decide +kernel
theorem dX11_takeRead_137 : decode cX11_takeRead 137 = .ok (.getfield 93, 3) := by decide +kernel
theorem dX11_takeRead_140 : decode cX11_takeRead 140 = .ok (.if_icmp .ge 71, 3) := by decide +kernel
theorem dX11_takeRead_143 : decode cX11_takeRead 143 = .ok (.aload_n 0, 1) := by decide +kernel
theorem dX11_takeRead_144 : decode cX11_takeRead 144 = .ok (.getfield 16, 3) := by decide +kernel
theorem dX11_takeRead_147 : decode cX11_takeRead 147 = .ok (.iload_n 1, 1) := by decide +kernel
theorem dX11_takeRead_148 : decode cX11_takeRead 148 = .ok (.aload_n 0, 1) := by decide +kernel
theorem dX11_takeRead_149 : decode cX11_takeRead 149 = .ok (.getfield 50, 3) := by decide +kernel
theorem dX11_takeRead_152 : decode cX11_takeRead 152 = .ok (.iload_n 1, 1) := by decide +kernel
theorem dX11_takeRead_153 : decode cX11_takeRead 153 = .ok (.iaload, 1) := by decide +kernel
theorem dX11_takeRead_154 : decode cX11_takeRead 154 = .ok (.iastore, 1) := by decide +kernel
theorem dX11_takeRead_155 : decode cX11_takeRead 155 = .ok (.aload_n 0, 1) := by decide +kernel
theorem dX11_takeRead_156 : decode cX11_takeRead 156 = .ok (.getfield 19, 3) := by decide +kernel
theorem dX11_takeRead_159 : decode cX11_takeRead 159 = .ok (.iload_n 1, 1) := by decide +kernel
theorem dX11_takeRead_160 : decode cX11_takeRead 160 = .ok (.aload_n 0, 1) := by decide +kernel
theorem dX11_takeRead_161 : decode cX11_takeRead 161 = .ok (.getfield 53, 3) := by decide +kernel
theorem dX11_takeRead_164 : decode cX11_takeRead 164 = .ok (.iload_n 1, 1) := by decide +kernel
theorem dX11_takeRead_165 : decode cX11_takeRead 165 = .ok (.iaload, 1) := by decide +kernel
theorem dX11_takeRead_166 : decode cX11_takeRead 166 = .ok (.iastore, 1) := by decide +kernel
theorem dX11_takeRead_167 : decode cX11_takeRead 167 = .ok (.aload_n 0, 1) := by decide +kernel
theorem dX11_takeRead_168 : decode cX11_takeRead 168 = .ok (.getfield 22, 3) := by decide +kernel
theorem dX11_takeRead_171 : decode cX11_takeRead 171 = .ok (.iload_n 1, 1) := by decide +kernel
theorem dX11_takeRead_172 : decode cX11_takeRead 172 = .ok (.aload_n 0, 1) := by decide +kernel
theorem dX11_takeRead_173 : decode cX11_takeRead 173 = .ok (.getfield 56, 3) := by decide +kernel
theorem dX11_takeRead_176 : decode cX11_takeRead 176 = .ok (.iload_n 1, 1) := by decide +kernel
theorem dX11_takeRead_177 : decode cX11_takeRead 177 = .ok (.iaload, 1) := by decide +kernel
theorem dX11_takeRead_178 : decode cX11_takeRead 178 = .ok (.iastore, 1) := by decide +kernel
theorem dX11_takeRead_179 : decode cX11_takeRead 179 = .ok (.aload_n 0, 1) := by decide +kernel
theorem dX11_takeRead_180 : decode cX11_takeRead 180 = .ok (.getfield 25, 3) := by decide +kernel
theorem dX11_takeRead_183 : decode cX11_takeRead 183 = .ok (.iload_n 1, 1) := by decide +kernel
theorem dX11_takeRead_184 : decode cX11_takeRead 184 = .ok (.aload_n 0, 1) := by decide +kernel
theorem dX11_takeRead_185 : decode cX11_takeRead 185 = .ok (.getfield 59, 3) := by decide +kernel
theorem dX11_takeRead_188 : decode cX11_takeRead 188 = .ok (.iload_n 1, 1) := by decide +kernel
theorem dX11_takeRead_189 : decode cX11_takeRead 189 = .ok (.iaload, 1) := by decide +kernel
theorem dX11_takeRead_190 : decode cX11_takeRead 190 = .ok (.iastore, 1) := by decide +kernel
theorem dX11_takeRead_191 : decode cX11_takeRead 191 = .ok (.aload_n 0, 1) := by decide +kernel
theorem dX11_takeRead_192 : decode cX11_takeRead 192 = .ok (.getfield 31, 3) := by decide +kernel
theorem dX11_takeRead_195 : decode cX11_takeRead 195 = .ok (.iconst 2, 1) := by decide +kernel
theorem dX11_takeRead_196 : decode cX11_takeRead 196 = .ok (.iload_n 1, 1) := by decide +kernel
theorem dX11_takeRead_197 : decode cX11_takeRead 197 = .ok (.iadd, 1) := by decide +kernel
theorem dX11_takeRead_198 : decode cX11_takeRead 198 = .ok (.aload_n 0, 1) := by decide +kernel
theorem dX11_takeRead_199 : decode cX11_takeRead 199 = .ok (.getfield 53, 3) := by decide +kernel
theorem dX11_takeRead_202 : decode cX11_takeRead 202 = .ok (.iload_n 1, 1) := by decide +kernel
theorem dX11_takeRead_203 : decode cX11_takeRead 203 = .ok (.iaload, 1) := by decide +kernel
theorem dX11_takeRead_204 : decode cX11_takeRead 204 = .ok (.iastore, 1) := by decide +kernel
theorem dX11_takeRead_205 : decode cX11_takeRead 205 = .ok (.iinc 1 1, 3) := by decide +kernel
theorem dX11_takeRead_208 : decode cX11_takeRead 208 = .ok (.goto (-73), 3) := by decide +kernel
theorem dX11_takeRead_211 : decode cX11_takeRead 211 = .ok (.aload_n 0, 1) := by decide +kernel
theorem dX11_takeRead_212 : decode cX11_takeRead 212 = .ok (.invokevirtual 182, 3) := by decide +kernel
theorem dX11_takeRead_215 : decode cX11_takeRead 215 = .ok (.return_, 1) := by decide +kernel
theorem dX11_feast_0 : decode cX11_feast 0 = .ok (.aload_n 0, 1) := by decide +kernel
theorem dX11_feast_1 : decode cX11_feast 1 = .ok (.iconst (-1), 1) := by decide +kernel
theorem dX11_feast_2 : decode cX11_feast 2 = .ok (.putfield 37, 3) := by decide +kernel
theorem dX11_feast_5 : decode cX11_feast 5 = .ok (.aload_n 0, 1) := by decide +kernel
theorem dX11_feast_6 : decode cX11_feast 6 = .ok (.iconst 0, 1) := by decide +kernel
theorem dX11_feast_7 : decode cX11_feast 7 = .ok (.putfield 111, 3) := by decide +kernel
theorem dX11_feast_10 : decode cX11_feast 10 = .ok (.aload_n 0, 1) := by decide +kernel
theorem dX11_feast_11 : decode cX11_feast 11 = .ok (.getfield 41, 3) := by decide +kernel
theorem dX11_feast_14 : decode cX11_feast 14 = .ok (.iconst 0, 1) := by decide +kernel
theorem dX11_feast_15 : decode cX11_feast 15 = .ok (.iconst 0, 1) := by decide +kernel
theorem dX11_feast_16 : decode cX11_feast 16 = .ok (.iastore, 1) := by decide +kernel
theorem dX11_feast_17 : decode cX11_feast 17 = .ok (.aload_n 0, 1) := by decide +kernel
theorem dX11_feast_18 : decode cX11_feast 18 = .ok (.getfield 41, 3) := by decide +kernel
theorem dX11_feast_21 : decode cX11_feast 21 = .ok (.iconst 1, 1) := by decide +kernel
theorem dX11_feast_22 : decode cX11_feast 22 = .ok (.iconst 0, 1) := by decide +kernel
theorem dX11_feast_23 : decode cX11_feast 23 = .ok (.iastore, 1) := by decide +kernel
theorem dX11_feast_24 : decode cX11_feast 24 = .ok (.aload_n 0, 1) := by decide +kernel
theorem dX11_feast_25 : decode cX11_feast 25 = .ok (.iconst 0, 1) := by decide +kernel
theorem dX11_feast_26 : decode cX11_feast 26 = .ok (.putfield 139, 3) := by decide +kernel
theorem dX11_feast_29 : decode cX11_feast 29 = .ok (.aload_n 0, 1) := by decide +kernel
theorem dX11_feast_30 : decode cX11_feast 30 = .ok (.iconst 0, 1) := by decide +kernel
theorem dX11_feast_31 : decode cX11_feast 31 = .ok (.putfield 142, 3) := by decide +kernel
theorem dX11_feast_34 : decode cX11_feast 34 = .ok (.aload_n 0, 1) := by decide +kernel
theorem dX11_feast_35 : decode cX11_feast 35 = .ok (.iconst 0, 1) := by decide +kernel
theorem dX11_feast_36 : decode cX11_feast 36 = .ok (.putfield 145, 3) := by decide +kernel
theorem dX11_feast_39 : decode cX11_feast 39 = .ok (.aload_n 0, 1) := by decide +kernel
theorem dX11_feast_40 : decode cX11_feast 40 = .ok (.iconst 0, 1) := by decide +kernel
theorem dX11_feast_41 : decode cX11_feast 41 = .ok (.putfield 148, 3) := by decide +kernel
theorem dX11_feast_44 : decode cX11_feast 44 = .ok (.iconst 0, 1) := by decide +kernel
theorem dX11_feast_45 : decode cX11_feast 45 = .ok (.istore_n 1, 1) := by decide +kernel
theorem dX11_feast_46 : decode cX11_feast 46 = .ok (.iload_n 1, 1) := by decide +kernel
theorem dX11_feast_47 : decode cX11_feast 47 = .ok (.ifCond .ne 18, 3) := by decide +kernel
theorem dX11_feast_50 : decode cX11_feast 50 = .ok (.aload_n 0, 1) := by decide +kernel
theorem dX11_feast_51 : decode cX11_feast 51 = .ok (.invokevirtual 114, 3) := by decide +kernel
theorem dX11_feast_54 : decode cX11_feast 54 = .ok (.ifCond .lt 11, 3) := by decide +kernel
theorem dX11_feast_57 : decode cX11_feast 57 = .ok (.aload_n 0, 1) := by decide +kernel
theorem dX11_feast_58 : decode cX11_feast 58 = .ok (.invokevirtual 185, 3) := by decide +kernel
theorem dX11_feast_61 : decode cX11_feast 61 = .ok (.istore_n 1, 1) := by decide +kernel
theorem dX11_feast_62 : decode cX11_feast 62 = .ok (.goto (-16), 3) := by decide +kernel
theorem dX11_feast_65 : decode cX11_feast 65 = .ok (.aload_n 0, 1) := by decide +kernel
theorem dX11_feast_66 : decode cX11_feast 66 = .ok (.iconst 0, 1) := by decide +kernel
theorem dX11_feast_67 : decode cX11_feast 67 = .ok (.putfield 107, 3) := by decide +kernel
theorem dX11_feast_70 : decode cX11_feast 70 = .ok (.iload_n 1, 1) := by decide +kernel
theorem dX11_feast_71 : decode cX11_feast 71 = .ok (.ifCond .le 8, 3) := by decide +kernel
theorem dX11_feast_74 : decode cX11_feast 74 = .ok (.bipush (-10), 2) := by decide +kernel
theorem dX11_feast_76 : decode cX11_feast 76 = .ok (.iload_n 1, 1) := by decide +kernel
theorem dX11_feast_77 : decode cX11_feast 77 = .ok (.isub, 1) := by decide +kernel
theorem dX11_feast_78 : decode cX11_feast 78 = .ok (.ireturn, 1) := by decide +kernel
theorem dX11_feast_79 : decode cX11_feast 79 = .ok (.aload_n 0, 1) := by decide +kernel
theorem dX11_feast_80 : decode cX11_feast 80 = .ok (.invokevirtual 188, 3) := by decide +kernel
theorem dX11_feast_83 : decode cX11_feast 83 = .ok (.aload_n 0, 1) := by decide +kernel
theorem dX11_feast_84 : decode cX11_feast 84 = .ok (.iconst 0, 1) := by decide +kernel
theorem dX11_feast_85 : decode cX11_feast 85 = .ok (.putfield 191, 3) := by decide +kernel
theorem dX11_feast_88 : decode cX11_feast 88 = .ok (.aload_n 0, 1) := by decide +kernel
theorem dX11_feast_89 : decode cX11_feast 89 = .ok (.iconst 0, 1) := by decide +kernel
theorem dX11_feast_90 : decode cX11_feast 90 = .ok (.putfield 194, 3) := by decide +kernel
theorem dX11_feast_93 : decode cX11_feast 93 = .ok (.aload_n 0, 1) := by decide +kernel
theorem dX11_feast_94 : decode cX11_feast 94 = .ok (.iconst 0, 1) := by decide +kernel
theorem dX11_feast_95 : decode cX11_feast 95 = .ok (.putfield 197, 3) := by decide +kernel
theorem dX11_feast_98 : decode cX11_feast 98 = .ok (.aload_n 0, 1) := by decide +kernel
theorem dX11_feast_99 : decode cX11_feast 99 = .ok (.getfield 89, 3) := by decide +kernel
theorem dX11_feast_102 : decode cX11_feast 102 = .ok (.iconst 0, 1) := by decide +kernel
theorem dX11_feast_103 : decode cX11_feast 103 = .ok (.iconst 0, 1) := by decide +kernel
theorem dX11_feast_104 : decode cX11_feast 104 = .ok (.bastore, 1) := by decide +kernel
theorem dX11_feast_105 : decode cX11_feast 105 = .ok (.aload_n 0, 1) := by decide +kernel
theorem dX11_feast_106 : decode cX11_feast 106 = .ok (.getfield 89, 3) := by decide +kernel
theorem dX11_feast_109 : decode cX11_feast 109 = .ok (.iconst 1, 1) := by decide +kernel
theorem dX11_feast_110 : decode cX11_feast 110 = .ok (.iconst 0, 1) := by decide +kernel
theorem dX11_feast_111 : decode cX11_feast 111 = .ok (.bastore, 1) := by decide +kernel
theorem dX11_feast_112 : decode cX11_feast 112 = .ok (.aload_n 0, 1) := by decide +kernel
theorem dX11_feast_113 : decode cX11_feast 113 = .ok (.getfield 93, 3) := by decide +kernel
theorem dX11_feast_116 : decode cX11_feast 116 = .ok (.ireturn, 1) := by decide +kernel
theorem dX11_fault_0 : decode cX11_fault 0 = .ok (.aload_n 0, 1) := by decide +kernel
theorem dX11_fault_1 : decode cX11_fault 1 = .ok (.getfield 37, 3) := by decide +kernel
theorem dX11_fault_4 : decode cX11_fault 4 = .ok (.ireturn, 1) := by decide +kernel
theorem dX11_told_0 : decode cX11_told 0 = .ok (.iload_n 1, 1) := by decide +kernel
theorem dX11_told_1 : decode cX11_told 1 = .ok (.tableswitch 130 0 11 #[63, 68, 73, 78, 83, 88, 93, 100, 107, 115, 120, 125], 63) := by decide +kernel
theorem dX11_told_64 : decode cX11_told 64 = .ok (.aload_n 0, 1) := by decide +kernel
theorem dX11_told_65 : decode cX11_told 65 = .ok (.getfield 170, 3) := by decide +kernel
theorem dX11_told_68 : decode cX11_told 68 = .ok (.ireturn, 1) := by decide +kernel
theorem dX11_told_69 : decode cX11_told 69 = .ok (.aload_n 0, 1) := by decide +kernel
theorem dX11_told_70 : decode cX11_told 70 = .ok (.getfield 173, 3) := by decide +kernel
theorem dX11_told_73 : decode cX11_told 73 = .ok (.ireturn, 1) := by decide +kernel
theorem dX11_told_74 : decode cX11_told 74 = .ok (.aload_n 0, 1) := by decide +kernel
theorem dX11_told_75 : decode cX11_told 75 = .ok (.getfield 176, 3) := by decide +kernel
theorem dX11_told_78 : decode cX11_told 78 = .ok (.ireturn, 1) := by decide +kernel
theorem dX11_told_79 : decode cX11_told 79 = .ok (.aload_n 0, 1) := by decide +kernel
theorem dX11_told_80 : decode cX11_told 80 = .ok (.getfield 179, 3) := by decide +kernel
theorem dX11_told_83 : decode cX11_told 83 = .ok (.ireturn, 1) := by decide +kernel
theorem dX11_told_84 : decode cX11_told 84 = .ok (.aload_n 0, 1) := by decide +kernel
theorem dX11_told_85 : decode cX11_told 85 = .ok (.getfield 93, 3) := by decide +kernel
theorem dX11_told_88 : decode cX11_told 88 = .ok (.ireturn, 1) := by decide +kernel
theorem dX11_told_89 : decode cX11_told 89 = .ok (.aload_n 0, 1) := by decide +kernel
theorem dX11_told_90 : decode cX11_told 90 = .ok (.getfield 107, 3) := by decide +kernel
theorem dX11_told_93 : decode cX11_told 93 = .ok (.ireturn, 1) := by decide +kernel
theorem dX11_told_94 : decode cX11_told 94 = .ok (.aload_n 0, 1) := by decide +kernel
theorem dX11_told_95 : decode cX11_told 95 = .ok (.getfield 31, 3) := by decide +kernel
theorem dX11_told_98 : decode cX11_told 98 = .ok (.iconst 0, 1) := by decide +kernel
theorem dX11_told_99 : decode cX11_told 99 = .ok (.iaload, 1) := by decide +kernel
theorem dX11_told_100 : decode cX11_told 100 = .ok (.ireturn, 1) := by decide +kernel
theorem dX11_told_101 : decode cX11_told 101 = .ok (.aload_n 0, 1) := by decide +kernel
theorem dX11_told_102 : decode cX11_told 102 = .ok (.getfield 31, 3) := by decide +kernel
theorem dX11_told_105 : decode cX11_told 105 = .ok (.iconst 1, 1) := by decide +kernel
theorem dX11_told_106 : decode cX11_told 106 = .ok (.iaload, 1) := by decide +kernel
theorem dX11_told_107 : decode cX11_told 107 = .ok (.ireturn, 1) := by decide +kernel
theorem dX11_told_108 : decode cX11_told 108 = .ok (.aload_n 0, 1) := by decide +kernel
theorem dX11_told_109 : decode cX11_told 109 = .ok (.getfield 31, 3) := by decide +kernel
theorem dX11_told_112 : decode cX11_told 112 = .ok (.bipush 12, 2) := by decide +kernel
theorem dX11_told_114 : decode cX11_told 114 = .ok (.iaload, 1) := by decide +kernel
theorem dX11_told_115 : decode cX11_told 115 = .ok (.ireturn, 1) := by decide +kernel
theorem dX11_told_116 : decode cX11_told 116 = .ok (.aload_n 0, 1) := by decide +kernel
theorem dX11_told_117 : decode cX11_told 117 = .ok (.getfield 191, 3) := by decide +kernel
theorem dX11_told_120 : decode cX11_told 120 = .ok (.ireturn, 1) := by decide +kernel
theorem dX11_told_121 : decode cX11_told 121 = .ok (.aload_n 0, 1) := by decide +kernel
theorem dX11_told_122 : decode cX11_told 122 = .ok (.getfield 194, 3) := by decide +kernel
theorem dX11_told_125 : decode cX11_told 125 = .ok (.ireturn, 1) := by decide +kernel
theorem dX11_told_126 : decode cX11_told 126 = .ok (.aload_n 0, 1) := by decide +kernel
theorem dX11_told_127 : decode cX11_told 127 = .ok (.getfield 197, 3) := by decide +kernel
theorem dX11_told_130 : decode cX11_told 130 = .ok (.ireturn, 1) := by decide +kernel
theorem dX11_told_131 : decode cX11_told 131 = .ok (.ldc 106, 2) := by decide +kernel
theorem dX11_told_133 : decode cX11_told 133 = .ok (.ireturn, 1) := by decide +kernel
theorem dX11_stem_0 : decode cX11_stem 0 = .ok (.iload_n 1, 1) := by decide +kernel
theorem dX11_stem_1 : decode cX11_stem 1 = .ok (.i2l, 1) := by decide +kernel
theorem dX11_stem_2 : decode cX11_stem 2 = .ok (.lconst 0, 1) := by decide +kernel
theorem dX11_stem_3 : decode cX11_stem 3 = .ok (.aload_n 0, 1) := by decide +kernel
theorem dX11_stem_4 : decode cX11_stem 4 = .ok (.getfield 176, 3) := by decide +kernel
theorem dX11_stem_7 : decode cX11_stem 7 = .ok (.iconst 1, 1) := by decide +kernel
theorem dX11_stem_8 : decode cX11_stem 8 = .ok (.isub, 1) := by decide +kernel
theorem dX11_stem_9 : decode cX11_stem 9 = .ok (.i2l, 1) := by decide +kernel
theorem dX11_stem_10 : decode cX11_stem 10 = .ok (.invokestatic 96, 3) := by decide +kernel
theorem dX11_stem_13 : decode cX11_stem 13 = .ok (.ifCond .eq 12, 3) := by decide +kernel
theorem dX11_stem_16 : decode cX11_stem 16 = .ok (.aload_n 0, 1) := by decide +kernel
theorem dX11_stem_17 : decode cX11_stem 17 = .ok (.getfield 7, 3) := by decide +kernel
theorem dX11_stem_20 : decode cX11_stem 20 = .ok (.iload_n 1, 1) := by decide +kernel
theorem dX11_stem_21 : decode cX11_stem 21 = .ok (.iaload, 1) := by decide +kernel
theorem dX11_stem_22 : decode cX11_stem 22 = .ok (.goto 5, 3) := by decide +kernel
theorem dX11_stem_25 : decode cX11_stem 25 = .ok (.ldc 200, 2) := by decide +kernel
theorem dX11_stem_27 : decode cX11_stem 27 = .ok (.ireturn, 1) := by decide +kernel
theorem dX11_ending_0 : decode cX11_ending 0 = .ok (.iload_n 1, 1) := by decide +kernel
theorem dX11_ending_1 : decode cX11_ending 1 = .ok (.i2l, 1) := by decide +kernel
theorem dX11_ending_2 : decode cX11_ending 2 = .ok (.lconst 0, 1) := by decide +kernel
theorem dX11_ending_3 : decode cX11_ending 3 = .ok (.aload_n 0, 1) := by decide +kernel
theorem dX11_ending_4 : decode cX11_ending 4 = .ok (.getfield 179, 3) := by decide +kernel
theorem dX11_ending_7 : decode cX11_ending 7 = .ok (.iconst 1, 1) := by decide +kernel
theorem dX11_ending_8 : decode cX11_ending 8 = .ok (.isub, 1) := by decide +kernel
theorem dX11_ending_9 : decode cX11_ending 9 = .ok (.i2l, 1) := by decide +kernel
theorem dX11_ending_10 : decode cX11_ending 10 = .ok (.invokestatic 96, 3) := by decide +kernel
theorem dX11_ending_13 : decode cX11_ending 13 = .ok (.ifCond .eq 12, 3) := by decide +kernel
theorem dX11_ending_16 : decode cX11_ending 16 = .ok (.aload_n 0, 1) := by decide +kernel
theorem dX11_ending_17 : decode cX11_ending 17 = .ok (.getfield 13, 3) := by decide +kernel
theorem dX11_ending_20 : decode cX11_ending 20 = .ok (.iload_n 1, 1) := by decide +kernel
theorem dX11_ending_21 : decode cX11_ending 21 = .ok (.iaload, 1) := by decide +kernel
theorem dX11_ending_22 : decode cX11_ending 22 = .ok (.goto 5, 3) := by decide +kernel
theorem dX11_ending_25 : decode cX11_ending 25 = .ok (.ldc 200, 2) := by decide +kernel
theorem dX11_ending_27 : decode cX11_ending 27 = .ok (.ireturn, 1) := by decide +kernel
theorem dX11_speaker_0 : decode cX11_speaker 0 = .ok (.aload_n 0, 1) := by decide +kernel
theorem dX11_speaker_1 : decode cX11_speaker 1 = .ok (.iload_n 1, 1) := by decide +kernel
theorem dX11_speaker_2 : decode cX11_speaker 2 = .ok (.invokevirtual 100, 3) := by decide +kernel
theorem dX11_speaker_5 : decode cX11_speaker 5 = .ok (.ifCond .ne 6, 3) := by decide +kernel
theorem dX11_speaker_8 : decode cX11_speaker 8 = .ok (.ldc 200, 2) := by decide +kernel
theorem dX11_speaker_10 : decode cX11_speaker 10 = .ok (.ireturn, 1) := by decide +kernel
theorem dX11_speaker_11 : decode cX11_speaker 11 = .ok (.iload_n 2, 1) := by decide +kernel
theorem dX11_speaker_12 : decode cX11_speaker 12 = .ok (.tableswitch 73 0 4 #[36, 43, 50, 59, 66], 36) := by decide +kernel
theorem dX11_speaker_48 : decode cX11_speaker 48 = .ok (.aload_n 0, 1) := by decide +kernel
theorem dX11_speaker_49 : decode cX11_speaker 49 = .ok (.getfield 16, 3) := by decide +kernel
theorem dX11_speaker_52 : decode cX11_speaker 52 = .ok (.iload_n 1, 1) := by decide +kernel
theorem dX11_speaker_53 : decode cX11_speaker 53 = .ok (.iaload, 1) := by decide +kernel
theorem dX11_speaker_54 : decode cX11_speaker 54 = .ok (.ireturn, 1) := by decide +kernel
theorem dX11_speaker_55 : decode cX11_speaker 55 = .ok (.aload_n 0, 1) := by decide +kernel
theorem dX11_speaker_56 : decode cX11_speaker 56 = .ok (.getfield 19, 3) := by decide +kernel
theorem dX11_speaker_59 : decode cX11_speaker 59 = .ok (.iload_n 1, 1) := by decide +kernel
theorem dX11_speaker_60 : decode cX11_speaker 60 = .ok (.iaload, 1) := by decide +kernel
theorem dX11_speaker_61 : decode cX11_speaker 61 = .ok (.ireturn, 1) := by decide +kernel
theorem dX11_speaker_62 : decode cX11_speaker 62 = .ok (.aload_n 0, 1) := by decide +kernel
theorem dX11_speaker_63 : decode cX11_speaker 63 = .ok (.getfield 31, 3) := by decide +kernel
theorem dX11_speaker_66 : decode cX11_speaker 66 = .ok (.iconst 2, 1) := by decide +kernel
theorem dX11_speaker_67 : decode cX11_speaker 67 = .ok (.iload_n 1, 1) := by decide +kernel
theorem dX11_speaker_68 : decode cX11_speaker 68 = .ok (.iadd, 1) := by decide +kernel
theorem dX11_speaker_69 : decode cX11_speaker 69 = .ok (.iaload, 1) := by decide +kernel
theorem dX11_speaker_70 : decode cX11_speaker 70 = .ok (.ireturn, 1) := by decide +kernel
theorem dX11_speaker_71 : decode cX11_speaker 71 = .ok (.aload_n 0, 1) := by decide +kernel
theorem dX11_speaker_72 : decode cX11_speaker 72 = .ok (.getfield 22, 3) := by decide +kernel
theorem dX11_speaker_75 : decode cX11_speaker 75 = .ok (.iload_n 1, 1) := by decide +kernel
theorem dX11_speaker_76 : decode cX11_speaker 76 = .ok (.iaload, 1) := by decide +kernel
theorem dX11_speaker_77 : decode cX11_speaker 77 = .ok (.ireturn, 1) := by decide +kernel
theorem dX11_speaker_78 : decode cX11_speaker 78 = .ok (.aload_n 0, 1) := by decide +kernel
theorem dX11_speaker_79 : decode cX11_speaker 79 = .ok (.getfield 25, 3) := by decide +kernel
theorem dX11_speaker_82 : decode cX11_speaker 82 = .ok (.iload_n 1, 1) := by decide +kernel
theorem dX11_speaker_83 : decode cX11_speaker 83 = .ok (.iaload, 1) := by decide +kernel
theorem dX11_speaker_84 : decode cX11_speaker 84 = .ok (.ireturn, 1) := by decide +kernel
theorem dX11_speaker_85 : decode cX11_speaker 85 = .ok (.ldc 106, 2) := by decide +kernel
theorem dX11_speaker_87 : decode cX11_speaker 87 = .ok (.ireturn, 1) := by decide +kernel
theorem dX11_lengthOf_0 : decode cX11_lengthOf 0 = .ok (.iload_n 1, 1) := by decide +kernel
theorem dX11_lengthOf_1 : decode cX11_lengthOf 1 = .ok (.bipush 10, 2) := by decide +kernel
theorem dX11_lengthOf_3 : decode cX11_lengthOf 3 = .ok (.irem, 1) := by decide +kernel
theorem dX11_lengthOf_4 : decode cX11_lengthOf 4 = .ok (.istore_n 2, 1) := by decide +kernel
theorem dX11_lengthOf_5 : decode cX11_lengthOf 5 = .ok (.iload_n 1, 1) := by decide +kernel
theorem dX11_lengthOf_6 : decode cX11_lengthOf 6 = .ok (.bipush 10, 2) := by decide +kernel
theorem dX11_lengthOf_8 : decode cX11_lengthOf 8 = .ok (.idiv, 1) := by decide +kernel
theorem dX11_lengthOf_9 : decode cX11_lengthOf 9 = .ok (.istore_n 3, 1) := by decide +kernel
theorem dX11_lengthOf_10 : decode cX11_lengthOf 10 = .ok (.iload_n 1, 1) := by decide +kernel
theorem dX11_lengthOf_11 : decode cX11_lengthOf 11 = .ok (.bipush 10, 2) := by decide +kernel
theorem dX11_lengthOf_13 : decode cX11_lengthOf 13 = .ok (.if_icmp .lt 11, 3) := by decide +kernel
theorem dX11_lengthOf_16 : decode cX11_lengthOf 16 = .ok (.iload_n 2, 1) := by decide +kernel
theorem dX11_lengthOf_17 : decode cX11_lengthOf 17 = .ok (.aload_n 0, 1) := by decide +kernel
theorem dX11_lengthOf_18 : decode cX11_lengthOf 18 = .ok (.getfield 179, 3) := by decide +kernel
theorem dX11_lengthOf_21 : decode cX11_lengthOf 21 = .ok (.if_icmp .le 5, 3) := by decide +kernel
theorem dX11_lengthOf_24 : decode cX11_lengthOf 24 = .ok (.iconst (-1), 1) := by decide +kernel
theorem dX11_lengthOf_25 : decode cX11_lengthOf 25 = .ok (.ireturn, 1) := by decide +kernel
theorem dX11_lengthOf_26 : decode cX11_lengthOf 26 = .ok (.iload_n 2, 1) := by decide +kernel
theorem dX11_lengthOf_27 : decode cX11_lengthOf 27 = .ok (.ifCond .ne 7, 3) := by decide +kernel
theorem dX11_lengthOf_30 : decode cX11_lengthOf 30 = .ok (.iconst 0, 1) := by decide +kernel
theorem dX11_lengthOf_31 : decode cX11_lengthOf 31 = .ok (.goto 11, 3) := by decide +kernel
theorem dX11_lengthOf_34 : decode cX11_lengthOf 34 = .ok (.aload_n 0, 1) := by decide +kernel
theorem dX11_lengthOf_35 : decode cX11_lengthOf 35 = .ok (.getfield 13, 3) := by decide +kernel
theorem dX11_lengthOf_38 : decode cX11_lengthOf 38 = .ok (.iload_n 2, 1) := by decide +kernel
theorem dX11_lengthOf_39 : decode cX11_lengthOf 39 = .ok (.iconst 1, 1) := by decide +kernel
theorem dX11_lengthOf_40 : decode cX11_lengthOf 40 = .ok (.isub, 1) := by decide +kernel
theorem dX11_lengthOf_41 : decode cX11_lengthOf 41 = .ok (.iaload, 1) := by decide +kernel
theorem dX11_lengthOf_42 : decode cX11_lengthOf 42 = .ok (.istore 4, 2) := by decide +kernel
theorem dX11_lengthOf_44 : decode cX11_lengthOf 44 = .ok (.iconst 0, 1) := by decide +kernel
theorem dX11_lengthOf_45 : decode cX11_lengthOf 45 = .ok (.istore 5, 2) := by decide +kernel
theorem dX11_lengthOf_47 : decode cX11_lengthOf 47 = .ok (.iconst (-1), 1) := by decide +kernel
theorem dX11_lengthOf_48 : decode cX11_lengthOf 48 = .ok (.istore 6, 2) := by decide +kernel
theorem dX11_lengthOf_50 : decode cX11_lengthOf 50 = .ok (.iload_n 3, 1) := by decide +kernel
theorem dX11_lengthOf_51 : decode cX11_lengthOf 51 = .ok (.ifCond .le 77, 3) := by decide +kernel
theorem dX11_lengthOf_54 : decode cX11_lengthOf 54 = .ok (.iload_n 3, 1) := by decide +kernel
theorem dX11_lengthOf_55 : decode cX11_lengthOf 55 = .ok (.bipush 10, 2) := by decide +kernel
theorem dX11_lengthOf_57 : decode cX11_lengthOf 57 = .ok (.irem, 1) := by decide +kernel
theorem dX11_lengthOf_58 : decode cX11_lengthOf 58 = .ok (.iconst 1, 1) := by decide +kernel
theorem dX11_lengthOf_59 : decode cX11_lengthOf 59 = .ok (.isub, 1) := by decide +kernel
theorem dX11_lengthOf_60 : decode cX11_lengthOf 60 = .ok (.istore 7, 2) := by decide +kernel
theorem dX11_lengthOf_62 : decode cX11_lengthOf 62 = .ok (.iload 7, 2) := by decide +kernel
theorem dX11_lengthOf_64 : decode cX11_lengthOf 64 = .ok (.i2l, 1) := by decide +kernel
theorem dX11_lengthOf_65 : decode cX11_lengthOf 65 = .ok (.lconst 0, 1) := by decide +kernel
theorem dX11_lengthOf_66 : decode cX11_lengthOf 66 = .ok (.aload_n 0, 1) := by decide +kernel
theorem dX11_lengthOf_67 : decode cX11_lengthOf 67 = .ok (.getfield 176, 3) := by decide +kernel
theorem dX11_lengthOf_70 : decode cX11_lengthOf 70 = .ok (.iconst 1, 1) := by decide +kernel
theorem dX11_lengthOf_71 : decode cX11_lengthOf 71 = .ok (.isub, 1) := by decide +kernel
theorem dX11_lengthOf_72 : decode cX11_lengthOf 72 = .ok (.i2l, 1) := by decide +kernel
theorem dX11_lengthOf_73 : decode cX11_lengthOf 73 = .ok (.invokestatic 96, 3) := by decide +kernel
theorem dX11_lengthOf_76 : decode cX11_lengthOf 76 = .ok (.ifCond .eq 23, 3) := by decide +kernel
theorem dX11_lengthOf_79 : decode cX11_lengthOf 79 = .ok (.iload 6, 2) := by decide +kernel
theorem dX11_lengthOf_81 : decode cX11_lengthOf 81 = .ok (.ifCond .lt 20, 3) := by decide +kernel
theorem dX11_lengthOf_84 : decode cX11_lengthOf 84 = .ok (.aload_n 0, 1) := by decide +kernel
theorem dX11_lengthOf_85 : decode cX11_lengthOf 85 = .ok (.getfield 28, 3) := by decide +kernel
theorem dX11_lengthOf_88 : decode cX11_lengthOf 88 = .ok (.iload 7, 2) := by decide +kernel
theorem dX11_lengthOf_90 : decode cX11_lengthOf 90 = .ok (.iaload, 1) := by decide +kernel
theorem dX11_lengthOf_91 : decode cX11_lengthOf 91 = .ok (.iload 6, 2) := by decide +kernel
theorem dX11_lengthOf_93 : decode cX11_lengthOf 93 = .ok (.invokestatic 151, 3) := by decide +kernel
theorem dX11_lengthOf_96 : decode cX11_lengthOf 96 = .ok (.ifCond .eq 5, 3) := by decide +kernel
theorem dX11_lengthOf_99 : decode cX11_lengthOf 99 = .ok (.iconst (-1), 1) := by decide +kernel
theorem dX11_lengthOf_100 : decode cX11_lengthOf 100 = .ok (.ireturn, 1) := by decide +kernel
theorem dX11_lengthOf_101 : decode cX11_lengthOf 101 = .ok (.iload 4, 2) := by decide +kernel
theorem dX11_lengthOf_103 : decode cX11_lengthOf 103 = .ok (.aload_n 0, 1) := by decide +kernel
theorem dX11_lengthOf_104 : decode cX11_lengthOf 104 = .ok (.getfield 7, 3) := by decide +kernel
theorem dX11_lengthOf_107 : decode cX11_lengthOf 107 = .ok (.iload 7, 2) := by decide +kernel
theorem dX11_lengthOf_109 : decode cX11_lengthOf 109 = .ok (.iaload, 1) := by decide +kernel
theorem dX11_lengthOf_110 : decode cX11_lengthOf 110 = .ok (.iadd, 1) := by decide +kernel
theorem dX11_lengthOf_111 : decode cX11_lengthOf 111 = .ok (.istore 4, 2) := by decide +kernel
theorem dX11_lengthOf_113 : decode cX11_lengthOf 113 = .ok (.iload 7, 2) := by decide +kernel
theorem dX11_lengthOf_115 : decode cX11_lengthOf 115 = .ok (.istore 6, 2) := by decide +kernel
theorem dX11_lengthOf_117 : decode cX11_lengthOf 117 = .ok (.iinc 5 1, 3) := by decide +kernel
theorem dX11_lengthOf_120 : decode cX11_lengthOf 120 = .ok (.iload_n 3, 1) := by decide +kernel
theorem dX11_lengthOf_121 : decode cX11_lengthOf 121 = .ok (.bipush 10, 2) := by decide +kernel
theorem dX11_lengthOf_123 : decode cX11_lengthOf 123 = .ok (.idiv, 1) := by decide +kernel
theorem dX11_lengthOf_124 : decode cX11_lengthOf 124 = .ok (.istore_n 3, 1) := by decide +kernel
theorem dX11_lengthOf_125 : decode cX11_lengthOf 125 = .ok (.goto (-75), 3) := by decide +kernel
theorem dX11_lengthOf_128 : decode cX11_lengthOf 128 = .ok (.iload 5, 2) := by decide +kernel
theorem dX11_lengthOf_130 : decode cX11_lengthOf 130 = .ok (.aload_n 0, 1) := by decide +kernel
theorem dX11_lengthOf_131 : decode cX11_lengthOf 131 = .ok (.getfield 170, 3) := by decide +kernel
theorem dX11_lengthOf_134 : decode cX11_lengthOf 134 = .ok (.if_icmp .gt 8, 3) := by decide +kernel
theorem dX11_lengthOf_137 : decode cX11_lengthOf 137 = .ok (.iload 4, 2) := by decide +kernel
theorem dX11_lengthOf_139 : decode cX11_lengthOf 139 = .ok (.goto 4, 3) := by decide +kernel
theorem dX11_lengthOf_142 : decode cX11_lengthOf 142 = .ok (.iconst (-1), 1) := by decide +kernel
theorem dX11_lengthOf_143 : decode cX11_lengthOf 143 = .ok (.ireturn, 1) := by decide +kernel
theorem dX11_length_0 : decode cX11_length 0 = .ok (.aload_n 0, 1) := by decide +kernel
theorem dX11_length_1 : decode cX11_length 1 = .ok (.iload_n 1, 1) := by decide +kernel
theorem dX11_length_2 : decode cX11_length 2 = .ok (.invokevirtual 201, 3) := by decide +kernel
theorem dX11_length_5 : decode cX11_length 5 = .ok (.ireturn, 1) := by decide +kernel
