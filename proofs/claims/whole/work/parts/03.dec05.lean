theorem dX11_findWords_0 : decode cX11_findWords 0 = .ok (.iconst 0, 1) := by decide +kernel
theorem dX11_findWords_1 : decode cX11_findWords 1 = .ok (.istore_n 1, 1) := by decide +kernel
theorem dX11_findWords_2 : decode cX11_findWords 2 = .ok (.iload_n 1, 1) := by decide +kernel
theorem dX11_findWords_3 : decode cX11_findWords 3 = .ok (.bipush 41, 2) := by decide +kernel
theorem dX11_findWords_5 : decode cX11_findWords 5 = .ok (.if_icmp .gt 23, 3) := by decide +kernel
theorem dX11_findWords_8 : decode cX11_findWords 8 = .ok (.aload_n 0, 1) := by decide +kernel
theorem dX11_findWords_9 : decode cX11_findWords 9 = .ok (.getfield 65, 3) := by decide +kernel
theorem dX11_findWords_12 : decode cX11_findWords 12 = .ok (.iload_n 1, 1) := by decide +kernel
theorem dX11_findWords_13 : decode cX11_findWords 13 = .ok (.iconst (-1), 1) := by decide +kernel
theorem dX11_findWords_14 : decode cX11_findWords 14 = .ok (.iastore, 1) := by decide +kernel
theorem dX11_findWords_15 : decode cX11_findWords 15 = .ok (.aload_n 0, 1) := by decide +kernel
theorem dX11_findWords_16 : decode cX11_findWords 16 = .ok (.getfield 68, 3) := by decide +kernel
theorem dX11_findWords_19 : decode cX11_findWords 19 = .ok (.iload_n 1, 1) := by decide +kernel
theorem dX11_findWords_20 : decode cX11_findWords 20 = .ok (.iconst 0, 1) := by decide +kernel
theorem dX11_findWords_21 : decode cX11_findWords 21 = .ok (.iastore, 1) := by decide +kernel
theorem dX11_findWords_22 : decode cX11_findWords 22 = .ok (.iinc 1 1, 3) := by decide +kernel
theorem dX11_findWords_25 : decode cX11_findWords 25 = .ok (.goto (-23), 3) := by decide +kernel
theorem dX11_findWords_28 : decode cX11_findWords 28 = .ok (.bipush 10, 2) := by decide +kernel
theorem dX11_findWords_30 : decode cX11_findWords 30 = .ok (.istore_n 1, 1) := by decide +kernel
theorem dX11_findWords_31 : decode cX11_findWords 31 = .ok (.iload_n 1, 1) := by decide +kernel
theorem dX11_findWords_32 : decode cX11_findWords 32 = .ok (.ldc 205, 2) := by decide +kernel
theorem dX11_findWords_34 : decode cX11_findWords 34 = .ok (.if_icmp .ge 61, 3) := by decide +kernel
theorem dX11_findWords_37 : decode cX11_findWords 37 = .ok (.aload_n 0, 1) := by decide +kernel
theorem dX11_findWords_38 : decode cX11_findWords 38 = .ok (.getfield 170, 3) := by decide +kernel
theorem dX11_findWords_41 : decode cX11_findWords 41 = .ok (.ifCond .le 54, 3) := by decide +kernel
theorem dX11_findWords_44 : decode cX11_findWords 44 = .ok (.aload_n 0, 1) := by decide +kernel
theorem dX11_findWords_45 : decode cX11_findWords 45 = .ok (.iload_n 1, 1) := by decide +kernel
theorem dX11_findWords_46 : decode cX11_findWords 46 = .ok (.invokevirtual 201, 3) := by decide +kernel
theorem dX11_findWords_49 : decode cX11_findWords 49 = .ok (.istore_n 2, 1) := by decide +kernel
theorem dX11_findWords_50 : decode cX11_findWords 50 = .ok (.iload_n 2, 1) := by decide +kernel
theorem dX11_findWords_51 : decode cX11_findWords 51 = .ok (.ifCond .lt 38, 3) := by decide +kernel
theorem dX11_findWords_54 : decode cX11_findWords 54 = .ok (.aload_n 0, 1) := by decide +kernel
theorem dX11_findWords_55 : decode cX11_findWords 55 = .ok (.getfield 65, 3) := by decide +kernel
theorem dX11_findWords_58 : decode cX11_findWords 58 = .ok (.iload_n 2, 1) := by decide +kernel
theorem dX11_findWords_59 : decode cX11_findWords 59 = .ok (.aload_n 0, 1) := by decide +kernel
theorem dX11_findWords_60 : decode cX11_findWords 60 = .ok (.getfield 68, 3) := by decide +kernel
theorem dX11_findWords_63 : decode cX11_findWords 63 = .ok (.iload_n 2, 1) := by decide +kernel
theorem dX11_findWords_64 : decode cX11_findWords 64 = .ok (.iaload, 1) := by decide +kernel
theorem dX11_findWords_65 : decode cX11_findWords 65 = .ok (.ifCond .ne 7, 3) := by decide +kernel
theorem dX11_findWords_68 : decode cX11_findWords 68 = .ok (.iload_n 1, 1) := by decide +kernel
theorem dX11_findWords_69 : decode cX11_findWords 69 = .ok (.goto 9, 3) := by decide +kernel
theorem dX11_findWords_72 : decode cX11_findWords 72 = .ok (.aload_n 0, 1) := by decide +kernel
theorem dX11_findWords_73 : decode cX11_findWords 73 = .ok (.getfield 65, 3) := by decide +kernel
theorem dX11_findWords_76 : decode cX11_findWords 76 = .ok (.iload_n 2, 1) := by decide +kernel
theorem dX11_findWords_77 : decode cX11_findWords 77 = .ok (.iaload, 1) := by decide +kernel
theorem dX11_findWords_78 : decode cX11_findWords 78 = .ok (.iastore, 1) := by decide +kernel
theorem dX11_findWords_79 : decode cX11_findWords 79 = .ok (.aload_n 0, 1) := by decide +kernel
theorem dX11_findWords_80 : decode cX11_findWords 80 = .ok (.getfield 68, 3) := by decide +kernel
theorem dX11_findWords_83 : decode cX11_findWords 83 = .ok (.iload_n 2, 1) := by decide +kernel
theorem dX11_findWords_84 : decode cX11_findWords 84 = .ok (.dup2, 1) := by decide +kernel
theorem dX11_findWords_85 : decode cX11_findWords 85 = .ok (.iaload, 1) := by decide +kernel
theorem dX11_findWords_86 : decode cX11_findWords 86 = .ok (.iconst 1, 1) := by decide +kernel
theorem dX11_findWords_87 : decode cX11_findWords 87 = .ok (.iadd, 1) := by decide +kernel
theorem dX11_findWords_88 : decode cX11_findWords 88 = .ok (.iastore, 1) := by decide +kernel
theorem dX11_findWords_89 : decode cX11_findWords 89 = .ok (.iinc 1 1, 3) := by decide +kernel
theorem dX11_findWords_92 : decode cX11_findWords 92 = .ok (.goto (-61), 3) := by decide +kernel
theorem dX11_findWords_95 : decode cX11_findWords 95 = .ok (.return_, 1) := by decide +kernel
theorem dX11_longestOf_0 : decode cX11_longestOf 0 = .ok (.iload_n 1, 1) := by decide +kernel
theorem dX11_longestOf_1 : decode cX11_longestOf 1 = .ok (.bipush 41, 2) := by decide +kernel
theorem dX11_longestOf_3 : decode cX11_longestOf 3 = .ok (.if_icmp .ge 7, 3) := by decide +kernel
theorem dX11_longestOf_6 : decode cX11_longestOf 6 = .ok (.iload_n 1, 1) := by decide +kernel
theorem dX11_longestOf_7 : decode cX11_longestOf 7 = .ok (.goto 5, 3) := by decide +kernel
theorem dX11_longestOf_10 : decode cX11_longestOf 10 = .ok (.bipush 41, 2) := by decide +kernel
theorem dX11_longestOf_12 : decode cX11_longestOf 12 = .ok (.istore_n 2, 1) := by decide +kernel
theorem dX11_longestOf_13 : decode cX11_longestOf 13 = .ok (.iload_n 2, 1) := by decide +kernel
theorem dX11_longestOf_14 : decode cX11_longestOf 14 = .ok (.ifCond .lt 18, 3) := by decide +kernel
theorem dX11_longestOf_17 : decode cX11_longestOf 17 = .ok (.aload_n 0, 1) := by decide +kernel
theorem dX11_longestOf_18 : decode cX11_longestOf 18 = .ok (.getfield 68, 3) := by decide +kernel
theorem dX11_longestOf_21 : decode cX11_longestOf 21 = .ok (.iload_n 2, 1) := by decide +kernel
theorem dX11_longestOf_22 : decode cX11_longestOf 22 = .ok (.iaload, 1) := by decide +kernel
theorem dX11_longestOf_23 : decode cX11_longestOf 23 = .ok (.ifCond .ne 9, 3) := by decide +kernel
theorem dX11_longestOf_26 : decode cX11_longestOf 26 = .ok (.iinc 2 (-1), 3) := by decide +kernel
theorem dX11_longestOf_29 : decode cX11_longestOf 29 = .ok (.goto (-16), 3) := by decide +kernel
theorem dX11_longestOf_32 : decode cX11_longestOf 32 = .ok (.iload_n 2, 1) := by decide +kernel
theorem dX11_longestOf_33 : decode cX11_longestOf 33 = .ok (.ireturn, 1) := by decide +kernel
theorem dX11_longest_0 : decode cX11_longest 0 = .ok (.iload_n 1, 1) := by decide +kernel
theorem dX11_longest_1 : decode cX11_longest 1 = .ok (.i2l, 1) := by decide +kernel
theorem dX11_longest_2 : decode cX11_longest 2 = .ok (.lconst 0, 1) := by decide +kernel
theorem dX11_longest_3 : decode cX11_longest 3 = .ok (.ldc2_w 206, 3) := by decide +kernel
theorem dX11_longest_6 : decode cX11_longest 6 = .ok (.invokestatic 96, 3) := by decide +kernel
theorem dX11_longest_9 : decode cX11_longest 9 = .ok (.ifCond .eq 13, 3) := by decide +kernel
theorem dX11_longest_12 : decode cX11_longest 12 = .ok (.iload_n 2, 1) := by decide +kernel
theorem dX11_longest_13 : decode cX11_longest 13 = .ok (.i2l, 1) := by decide +kernel
theorem dX11_longest_14 : decode cX11_longest 14 = .ok (.lconst 0, 1) := by decide +kernel
theorem dX11_longest_15 : decode cX11_longest 15 = .ok (.lconst 1, 1) := by decide +kernel
theorem dX11_longest_16 : decode cX11_longest 16 = .ok (.invokestatic 96, 3) := by decide +kernel
theorem dX11_longest_19 : decode cX11_longest 19 = .ok (.ifCond .ne 6, 3) := by decide +kernel
theorem dX11_longest_22 : decode cX11_longest 22 = .ok (.ldc 106, 2) := by decide +kernel
theorem dX11_longest_24 : decode cX11_longest 24 = .ok (.ireturn, 1) := by decide +kernel
theorem dX11_longest_25 : decode cX11_longest 25 = .ok (.aload_n 0, 1) := by decide +kernel
theorem dX11_longest_26 : decode cX11_longest 26 = .ok (.iload_n 1, 1) := by decide +kernel
theorem dX11_longest_27 : decode cX11_longest 27 = .ok (.invokevirtual 208, 3) := by decide +kernel
theorem dX11_longest_30 : decode cX11_longest 30 = .ok (.istore_n 3, 1) := by decide +kernel
theorem dX11_longest_31 : decode cX11_longest 31 = .ok (.iload_n 3, 1) := by decide +kernel
theorem dX11_longest_32 : decode cX11_longest 32 = .ok (.ifCond .lt 7, 3) := by decide +kernel
theorem dX11_longest_35 : decode cX11_longest 35 = .ok (.iload_n 2, 1) := by decide +kernel
theorem dX11_longest_36 : decode cX11_longest 36 = .ok (.ifCond .ne 7, 3) := by decide +kernel
theorem dX11_longest_39 : decode cX11_longest 39 = .ok (.iload_n 3, 1) := by decide +kernel
theorem dX11_longest_40 : decode cX11_longest 40 = .ok (.goto 9, 3) := by decide +kernel
theorem dX11_longest_43 : decode cX11_longest 43 = .ok (.aload_n 0, 1) := by decide +kernel
theorem dX11_longest_44 : decode cX11_longest 44 = .ok (.getfield 65, 3) := by decide +kernel
theorem dX11_longest_47 : decode cX11_longest 47 = .ok (.iload_n 3, 1) := by decide +kernel
theorem dX11_longest_48 : decode cX11_longest 48 = .ok (.iaload, 1) := by decide +kernel
theorem dX11_longest_49 : decode cX11_longest 49 = .ok (.ireturn, 1) := by decide +kernel
theorem dX11_howMany_0 : decode cX11_howMany 0 = .ok (.iload_n 1, 1) := by decide +kernel
theorem dX11_howMany_1 : decode cX11_howMany 1 = .ok (.i2l, 1) := by decide +kernel
theorem dX11_howMany_2 : decode cX11_howMany 2 = .ok (.lconst 0, 1) := by decide +kernel
theorem dX11_howMany_3 : decode cX11_howMany 3 = .ok (.ldc2_w 206, 3) := by decide +kernel
theorem dX11_howMany_6 : decode cX11_howMany 6 = .ok (.invokestatic 96, 3) := by decide +kernel
theorem dX11_howMany_9 : decode cX11_howMany 9 = .ok (.ifCond .ne 6, 3) := by decide +kernel
theorem dX11_howMany_12 : decode cX11_howMany 12 = .ok (.ldc 106, 2) := by decide +kernel
theorem dX11_howMany_14 : decode cX11_howMany 14 = .ok (.ireturn, 1) := by decide +kernel
theorem dX11_howMany_15 : decode cX11_howMany 15 = .ok (.iload_n 1, 1) := by decide +kernel
theorem dX11_howMany_16 : decode cX11_howMany 16 = .ok (.bipush 41, 2) := by decide +kernel
theorem dX11_howMany_18 : decode cX11_howMany 18 = .ok (.if_icmp .gt 12, 3) := by decide +kernel
theorem dX11_howMany_21 : decode cX11_howMany 21 = .ok (.aload_n 0, 1) := by decide +kernel
theorem dX11_howMany_22 : decode cX11_howMany 22 = .ok (.getfield 68, 3) := by decide +kernel
theorem dX11_howMany_25 : decode cX11_howMany 25 = .ok (.iload_n 1, 1) := by decide +kernel
theorem dX11_howMany_26 : decode cX11_howMany 26 = .ok (.iaload, 1) := by decide +kernel
theorem dX11_howMany_27 : decode cX11_howMany 27 = .ok (.goto 4, 3) := by decide +kernel
theorem dX11_howMany_30 : decode cX11_howMany 30 = .ok (.iconst 0, 1) := by decide +kernel
theorem dX11_howMany_31 : decode cX11_howMany 31 = .ok (.ireturn, 1) := by decide +kernel
theorem dX11_said_0 : decode cX11_said 0 = .ok (.iload_n 1, 1) := by decide +kernel
theorem dX11_said_1 : decode cX11_said 1 = .ok (.i2l, 1) := by decide +kernel
theorem dX11_said_2 : decode cX11_said 2 = .ok (.lconst 0, 1) := by decide +kernel
theorem dX11_said_3 : decode cX11_said 3 = .ok (.aload_n 0, 1) := by decide +kernel
theorem dX11_said_4 : decode cX11_said 4 = .ok (.getfield 31, 3) := by decide +kernel
theorem dX11_said_7 : decode cX11_said 7 = .ok (.bipush 12, 2) := by decide +kernel
theorem dX11_said_9 : decode cX11_said 9 = .ok (.iaload, 1) := by decide +kernel
theorem dX11_said_10 : decode cX11_said 10 = .ok (.iconst 1, 1) := by decide +kernel
theorem dX11_said_11 : decode cX11_said 11 = .ok (.isub, 1) := by decide +kernel
theorem dX11_said_12 : decode cX11_said 12 = .ok (.i2l, 1) := by decide +kernel
theorem dX11_said_13 : decode cX11_said 13 = .ok (.invokestatic 96, 3) := by decide +kernel
theorem dX11_said_16 : decode cX11_said 16 = .ok (.ifCond .eq 15, 3) := by decide +kernel
theorem dX11_said_19 : decode cX11_said 19 = .ok (.aload_n 0, 1) := by decide +kernel
theorem dX11_said_20 : decode cX11_said 20 = .ok (.getfield 31, 3) := by decide +kernel
theorem dX11_said_23 : decode cX11_said 23 = .ok (.bipush 13, 2) := by decide +kernel
theorem dX11_said_25 : decode cX11_said 25 = .ok (.iload_n 1, 1) := by decide +kernel
theorem dX11_said_26 : decode cX11_said 26 = .ok (.iadd, 1) := by decide +kernel
theorem dX11_said_27 : decode cX11_said 27 = .ok (.iaload, 1) := by decide +kernel
theorem dX11_said_28 : decode cX11_said 28 = .ok (.goto 4, 3) := by decide +kernel
theorem dX11_said_31 : decode cX11_said 31 = .ok (.iconst (-1), 1) := by decide +kernel
theorem dX11_said_32 : decode cX11_said 32 = .ok (.ireturn, 1) := by decide +kernel
theorem dX11_wasSaid_0 : decode cX11_wasSaid 0 = .ok (.iconst 0, 1) := by decide +kernel
theorem dX11_wasSaid_1 : decode cX11_wasSaid 1 = .ok (.istore_n 2, 1) := by decide +kernel
theorem dX11_wasSaid_2 : decode cX11_wasSaid 2 = .ok (.iconst 0, 1) := by decide +kernel
theorem dX11_wasSaid_3 : decode cX11_wasSaid 3 = .ok (.istore_n 3, 1) := by decide +kernel
theorem dX11_wasSaid_4 : decode cX11_wasSaid 4 = .ok (.iload_n 3, 1) := by decide +kernel
theorem dX11_wasSaid_5 : decode cX11_wasSaid 5 = .ok (.aload_n 0, 1) := by decide +kernel
theorem dX11_wasSaid_6 : decode cX11_wasSaid 6 = .ok (.getfield 31, 3) := by decide +kernel
theorem dX11_wasSaid_9 : decode cX11_wasSaid 9 = .ok (.bipush 12, 2) := by decide +kernel
theorem dX11_wasSaid_11 : decode cX11_wasSaid 11 = .ok (.iaload, 1) := by decide +kernel
theorem dX11_wasSaid_12 : decode cX11_wasSaid 12 = .ok (.if_icmp .ge 32, 3) := by decide +kernel
theorem dX11_wasSaid_15 : decode cX11_wasSaid 15 = .ok (.iload_n 2, 1) := by decide +kernel
theorem dX11_wasSaid_16 : decode cX11_wasSaid 16 = .ok (.ifCond .ne 16, 3) := by decide +kernel
theorem dX11_wasSaid_19 : decode cX11_wasSaid 19 = .ok (.aload_n 0, 1) := by decide +kernel
theorem dX11_wasSaid_20 : decode cX11_wasSaid 20 = .ok (.getfield 31, 3) := by decide +kernel
theorem dX11_wasSaid_23 : decode cX11_wasSaid 23 = .ok (.bipush 13, 2) := by decide +kernel
theorem dX11_wasSaid_25 : decode cX11_wasSaid 25 = .ok (.iload_n 3, 1) := by decide +kernel
theorem dX11_wasSaid_26 : decode cX11_wasSaid 26 = .ok (.iadd, 1) := by decide +kernel
theorem dX11_wasSaid_27 : decode cX11_wasSaid 27 = .ok (.iaload, 1) := by decide +kernel
theorem dX11_wasSaid_28 : decode cX11_wasSaid 28 = .ok (.iload_n 1, 1) := by decide +kernel
theorem dX11_wasSaid_29 : decode cX11_wasSaid 29 = .ok (.if_icmp .ne 7, 3) := by decide +kernel
theorem dX11_wasSaid_32 : decode cX11_wasSaid 32 = .ok (.iconst 1, 1) := by decide +kernel
theorem dX11_wasSaid_33 : decode cX11_wasSaid 33 = .ok (.goto 4, 3) := by decide +kernel
theorem dX11_wasSaid_36 : decode cX11_wasSaid 36 = .ok (.iconst 0, 1) := by decide +kernel
theorem dX11_wasSaid_37 : decode cX11_wasSaid 37 = .ok (.istore_n 2, 1) := by decide +kernel
theorem dX11_wasSaid_38 : decode cX11_wasSaid 38 = .ok (.iinc 3 1, 3) := by decide +kernel
theorem dX11_wasSaid_41 : decode cX11_wasSaid 41 = .ok (.goto (-37), 3) := by decide +kernel
theorem dX11_wasSaid_44 : decode cX11_wasSaid 44 = .ok (.iload_n 2, 1) := by decide +kernel
theorem dX11_wasSaid_45 : decode cX11_wasSaid 45 = .ok (.ireturn, 1) := by decide +kernel
theorem dX11_say_0 : decode cX11_say 0 = .ok (.aload_n 0, 1) := by decide +kernel
theorem dX11_say_1 : decode cX11_say 1 = .ok (.getfield 31, 3) := by decide +kernel
theorem dX11_say_4 : decode cX11_say 4 = .ok (.bipush 12, 2) := by decide +kernel
theorem dX11_say_6 : decode cX11_say 6 = .ok (.iaload, 1) := by decide +kernel
theorem dX11_say_7 : decode cX11_say 7 = .ok (.bipush 40, 2) := by decide +kernel
theorem dX11_say_9 : decode cX11_say 9 = .ok (.if_icmp .ne 43, 3) := by decide +kernel
theorem dX11_say_12 : decode cX11_say 12 = .ok (.bipush 14, 2) := by decide +kernel
theorem dX11_say_14 : decode cX11_say 14 = .ok (.istore_n 2, 1) := by decide +kernel
theorem dX11_say_15 : decode cX11_say 15 = .ok (.iload_n 2, 1) := by decide +kernel
theorem dX11_say_16 : decode cX11_say 16 = .ok (.bipush 53, 2) := by decide +kernel
theorem dX11_say_18 : decode cX11_say 18 = .ok (.if_icmp .ge 23, 3) := by decide +kernel
theorem dX11_say_21 : decode cX11_say 21 = .ok (.aload_n 0, 1) := by decide +kernel
theorem dX11_say_22 : decode cX11_say 22 = .ok (.getfield 31, 3) := by decide +kernel
theorem dX11_say_25 : decode cX11_say 25 = .ok (.iload_n 2, 1) := by decide +kernel
theorem dX11_say_26 : decode cX11_say 26 = .ok (.iconst 1, 1) := by decide +kernel
theorem dX11_say_27 : decode cX11_say 27 = .ok (.isub, 1) := by decide +kernel
theorem dX11_say_28 : decode cX11_say 28 = .ok (.aload_n 0, 1) := by decide +kernel
theorem dX11_say_29 : decode cX11_say 29 = .ok (.getfield 31, 3) := by decide +kernel
theorem dX11_say_32 : decode cX11_say 32 = .ok (.iload_n 2, 1) := by decide +kernel
theorem dX11_say_33 : decode cX11_say 33 = .ok (.iaload, 1) := by decide +kernel
theorem dX11_say_34 : decode cX11_say 34 = .ok (.iastore, 1) := by decide +kernel
theorem dX11_say_35 : decode cX11_say 35 = .ok (.iinc 2 1, 3) := by decide +kernel
theorem dX11_say_38 : decode cX11_say 38 = .ok (.goto (-23), 3) := by decide +kernel
theorem dX11_say_41 : decode cX11_say 41 = .ok (.aload_n 0, 1) := by decide +kernel
theorem dX11_say_42 : decode cX11_say 42 = .ok (.getfield 31, 3) := by decide +kernel
theorem dX11_say_45 : decode cX11_say 45 = .ok (.bipush 12, 2) := by decide +kernel
theorem dX11_say_47 : decode cX11_say 47 = .ok (.dup2, 1) := by decide +kernel
theorem dX11_say_48 : decode cX11_say 48 = .ok (.iaload, 1) := by decide +kernel
theorem dX11_say_49 : decode cX11_say 49 = .ok (.iconst 1, 1) := by decide +kernel
theorem dX11_say_50 : decode cX11_say 50 = .ok (.isub, 1) := by decide +kernel
theorem dX11_say_51 : decode cX11_say 51 = .ok (.iastore, 1) := by decide +kernel
theorem dX11_say_52 : decode cX11_say 52 = .ok (.aload_n 0, 1) := by decide +kernel
theorem dX11_say_53 : decode cX11_say 53 = .ok (.getfield 31, 3) := by decide +kernel
theorem dX11_say_56 : decode cX11_say 56 = .ok (.bipush 13, 2) := by decide +kernel
theorem dX11_say_58 : decode cX11_say 58 = .ok (.aload_n 0, 1) := by decide +kernel
theorem dX11_say_59 : decode cX11_say 59 = .ok (.getfield 31, 3) := by decide +kernel
theorem dX11_say_62 : decode cX11_say 62 = .ok (.bipush 12, 2) := by decide +kernel
theorem dX11_say_64 : decode cX11_say 64 = .ok (.iaload, 1) := by decide +kernel
theorem dX11_say_65 : decode cX11_say 65 = .ok (.iadd, 1) := by decide +kernel
theorem dX11_say_66 : decode cX11_say 66 = .ok (.iload_n 1, 1) := by decide +kernel
theorem dX11_say_67 : decode cX11_say 67 = .ok (.iastore, 1) := by decide +kernel
theorem dX11_say_68 : decode cX11_say 68 = .ok (.aload_n 0, 1) := by decide +kernel
theorem dX11_say_69 : decode cX11_say 69 = .ok (.getfield 31, 3) := by decide +kernel
theorem dX11_say_72 : decode cX11_say 72 = .ok (.bipush 12, 2) := by decide +kernel
theorem dX11_say_74 : decode cX11_say 74 = .ok (.dup2, 1) := by decide +kernel
theorem dX11_say_75 : decode cX11_say 75 = .ok (.iaload, 1) := by decide +kernel
theorem dX11_say_76 : decode cX11_say 76 = .ok (.iconst 1, 1) := by decide +kernel
theorem dX11_say_77 : decode cX11_say 77 = .ok (.iadd, 1) := by decide +kernel
theorem dX11_say_78 : decode cX11_say 78 = .ok (.iastore, 1) := by decide +kernel
theorem dX11_say_79 : decode cX11_say 79 = .ok (.return_, 1) := by decide +kernel
theorem dX11_remember_0 : decode cX11_remember 0 = .ok (.aload_n 0, 1) := by decide +kernel
theorem dX11_remember_1 : decode cX11_remember 1 = .ok (.getfield 197, 3) := by decide +kernel
theorem dX11_remember_4 : decode cX11_remember 4 = .ok (.bipush 20, 2) := by decide +kernel
theorem dX11_remember_6 : decode cX11_remember 6 = .ok (.if_icmp .ne 44, 3) := by decide +kernel
theorem dX11_remember_9 : decode cX11_remember 9 = .ok (.bipush 53, 2) := by decide +kernel
theorem dX11_remember_11 : decode cX11_remember 11 = .ok (.istore_n 1, 1) := by decide +kernel
theorem dX11_remember_12 : decode cX11_remember 12 = .ok (.iload_n 1, 1) := by decide +kernel
theorem dX11_remember_13 : decode cX11_remember 13 = .ok (.sipush 1060, 3) := by decide +kernel
theorem dX11_remember_16 : decode cX11_remember 16 = .ok (.if_icmp .ge 24, 3) := by decide +kernel
theorem dX11_remember_19 : decode cX11_remember 19 = .ok (.aload_n 0, 1) := by decide +kernel
theorem dX11_remember_20 : decode cX11_remember 20 = .ok (.getfield 71, 3) := by decide +kernel
theorem dX11_remember_23 : decode cX11_remember 23 = .ok (.iload_n 1, 1) := by decide +kernel
theorem dX11_remember_24 : decode cX11_remember 24 = .ok (.bipush 53, 2) := by decide +kernel
theorem dX11_remember_26 : decode cX11_remember 26 = .ok (.isub, 1) := by decide +kernel
theorem dX11_remember_27 : decode cX11_remember 27 = .ok (.aload_n 0, 1) := by decide +kernel
theorem dX11_remember_28 : decode cX11_remember 28 = .ok (.getfield 71, 3) := by decide +kernel
theorem dX11_remember_31 : decode cX11_remember 31 = .ok (.iload_n 1, 1) := by decide +kernel
theorem dX11_remember_32 : decode cX11_remember 32 = .ok (.iaload, 1) := by decide +kernel
theorem dX11_remember_33 : decode cX11_remember 33 = .ok (.iastore, 1) := by decide +kernel
theorem dX11_remember_34 : decode cX11_remember 34 = .ok (.iinc 1 1, 3) := by decide +kernel
theorem dX11_remember_37 : decode cX11_remember 37 = .ok (.goto (-25), 3) := by decide +kernel
theorem dX11_remember_40 : decode cX11_remember 40 = .ok (.aload_n 0, 1) := by decide +kernel
theorem dX11_remember_41 : decode cX11_remember 41 = .ok (.dup, 1) := by decide +kernel
theorem dX11_remember_42 : decode cX11_remember 42 = .ok (.getfield 197, 3) := by decide +kernel
theorem dX11_remember_45 : decode cX11_remember 45 = .ok (.iconst 1, 1) := by decide +kernel
theorem dX11_remember_46 : decode cX11_remember 46 = .ok (.isub, 1) := by decide +kernel
theorem dX11_remember_47 : decode cX11_remember 47 = .ok (.putfield 197, 3) := by decide +kernel
theorem dX11_remember_50 : decode cX11_remember 50 = .ok (.iconst 0, 1) := by decide +kernel
theorem dX11_remember_51 : decode cX11_remember 51 = .ok (.istore_n 1, 1) := by decide +kernel
theorem dX11_remember_52 : decode cX11_remember 52 = .ok (.iload_n 1, 1) := by decide +kernel
theorem dX11_remember_53 : decode cX11_remember 53 = .ok (.bipush 53, 2) := by decide +kernel
theorem dX11_remember_55 : decode cX11_remember 55 = .ok (.if_icmp .ge 29, 3) := by decide +kernel
theorem dX11_remember_58 : decode cX11_remember 58 = .ok (.aload_n 0, 1) := by decide +kernel
theorem dX11_remember_59 : decode cX11_remember 59 = .ok (.getfield 71, 3) := by decide +kernel
theorem dX11_remember_62 : decode cX11_remember 62 = .ok (.bipush 53, 2) := by decide +kernel
theorem dX11_remember_64 : decode cX11_remember 64 = .ok (.aload_n 0, 1) := by decide +kernel
theorem dX11_remember_65 : decode cX11_remember 65 = .ok (.getfield 197, 3) := by decide +kernel
theorem dX11_remember_68 : decode cX11_remember 68 = .ok (.imul, 1) := by decide +kernel
theorem dX11_remember_69 : decode cX11_remember 69 = .ok (.iload_n 1, 1) := by decide +kernel
theorem dX11_remember_70 : decode cX11_remember 70 = .ok (.iadd, 1) := by decide +kernel
theorem dX11_remember_71 : decode cX11_remember 71 = .ok (.aload_n 0, 1) := by decide +kernel
theorem dX11_remember_72 : decode cX11_remember 72 = .ok (.getfield 31, 3) := by decide +kernel
theorem dX11_remember_75 : decode cX11_remember 75 = .ok (.iload_n 1, 1) := by decide +kernel
theorem dX11_remember_76 : decode cX11_remember 76 = .ok (.iaload, 1) := by decide +kernel
theorem dX11_remember_77 : decode cX11_remember 77 = .ok (.iastore, 1) := by decide +kernel
theorem dX11_remember_78 : decode cX11_remember 78 = .ok (.iinc 1 1, 3) := by decide +kernel
theorem dX11_remember_81 : decode cX11_remember 81 = .ok (.goto (-29), 3) := by decide +kernel
theorem dX11_remember_84 : decode cX11_remember 84 = .ok (.aload_n 0, 1) := by decide +kernel
theorem dX11_remember_85 : decode cX11_remember 85 = .ok (.dup, 1) := by decide +kernel
theorem dX11_remember_86 : decode cX11_remember 86 = .ok (.getfield 197, 3) := by decide +kernel
theorem dX11_remember_89 : decode cX11_remember 89 = .ok (.iconst 1, 1) := by decide +kernel
theorem dX11_remember_90 : decode cX11_remember 90 = .ok (.iadd, 1) := by decide +kernel
theorem dX11_remember_91 : decode cX11_remember 91 = .ok (.putfield 197, 3) := by decide +kernel
theorem dX11_remember_94 : decode cX11_remember 94 = .ok (.return_, 1) := by decide +kernel
theorem dX11_pullOf_0 : decode cX11_pullOf 0 = .ok (.iload_n 2, 1) := by decide +kernel
theorem dX11_pullOf_1 : decode cX11_pullOf 1 = .ok (.bipush 10, 2) := by decide +kernel
theorem dX11_pullOf_3 : decode cX11_pullOf 3 = .ok (.aload_n 0, 1) := by decide +kernel
theorem dX11_pullOf_4 : decode cX11_pullOf 4 = .ok (.getfield 22, 3) := by decide +kernel
theorem dX11_pullOf_7 : decode cX11_pullOf 7 = .ok (.iload_n 1, 1) := by decide +kernel
theorem dX11_pullOf_8 : decode cX11_pullOf 8 = .ok (.iaload, 1) := by decide +kernel
theorem dX11_pullOf_9 : decode cX11_pullOf 9 = .ok (.bipush 10, 2) := by decide +kernel
theorem dX11_pullOf_11 : decode cX11_pullOf 11 = .ok (.idiv, 1) := by decide +kernel
theorem dX11_pullOf_12 : decode cX11_pullOf 12 = .ok (.iadd, 1) := by decide +kernel
theorem dX11_pullOf_13 : decode cX11_pullOf 13 = .ok (.imul, 1) := by decide +kernel
theorem dX11_pullOf_14 : decode cX11_pullOf 14 = .ok (.bipush 10, 2) := by decide +kernel
theorem dX11_pullOf_16 : decode cX11_pullOf 16 = .ok (.idiv, 1) := by decide +kernel
theorem dX11_pullOf_17 : decode cX11_pullOf 17 = .ok (.aload_n 0, 1) := by decide +kernel
theorem dX11_pullOf_18 : decode cX11_pullOf 18 = .ok (.getfield 173, 3) := by decide +kernel
theorem dX11_pullOf_21 : decode cX11_pullOf 21 = .ok (.isub, 1) := by decide +kernel
theorem dX11_pullOf_22 : decode cX11_pullOf 22 = .ok (.istore_n 3, 1) := by decide +kernel
theorem dX11_pullOf_23 : decode cX11_pullOf 23 = .ok (.iload_n 2, 1) := by decide +kernel
theorem dX11_pullOf_24 : decode cX11_pullOf 24 = .ok (.ifCond .le 11, 3) := by decide +kernel
theorem dX11_pullOf_27 : decode cX11_pullOf 27 = .ok (.iload_n 3, 1) := by decide +kernel
theorem dX11_pullOf_28 : decode cX11_pullOf 28 = .ok (.ifCond .le 7, 3) := by decide +kernel
theorem dX11_pullOf_31 : decode cX11_pullOf 31 = .ok (.iload_n 3, 1) := by decide +kernel
theorem dX11_pullOf_32 : decode cX11_pullOf 32 = .ok (.goto 4, 3) := by decide +kernel
theorem dX11_pullOf_35 : decode cX11_pullOf 35 = .ok (.iconst 0, 1) := by decide +kernel
theorem dX11_pullOf_36 : decode cX11_pullOf 36 = .ok (.ireturn, 1) := by decide +kernel
theorem dX11_goesBy_0 : decode cX11_goesBy 0 = .ok (.iload_n 2, 1) := by decide +kernel
theorem dX11_goesBy_1 : decode cX11_goesBy 1 = .ok (.iload 4, 2) := by decide +kernel
theorem dX11_goesBy_3 : decode cX11_goesBy 3 = .ok (.if_icmp .le 16, 3) := by decide +kernel
theorem dX11_goesBy_6 : decode cX11_goesBy 6 = .ok (.aload_n 0, 1) := by decide +kernel
theorem dX11_goesBy_7 : decode cX11_goesBy 7 = .ok (.iload_n 1, 1) := by decide +kernel
theorem dX11_goesBy_8 : decode cX11_goesBy 8 = .ok (.iload_n 2, 1) := by decide +kernel
theorem dX11_goesBy_9 : decode cX11_goesBy 9 = .ok (.iload 4, 2) := by decide +kernel
theorem dX11_goesBy_11 : decode cX11_goesBy 11 = .ok (.isub, 1) := by decide +kernel
theorem dX11_goesBy_12 : decode cX11_goesBy 12 = .ok (.invokevirtual 211, 3) := by decide +kernel
theorem dX11_goesBy_15 : decode cX11_goesBy 15 = .ok (.ineg, 1) := by decide +kernel
theorem dX11_goesBy_16 : decode cX11_goesBy 16 = .ok (.goto 12, 3) := by decide +kernel
theorem dX11_goesBy_19 : decode cX11_goesBy 19 = .ok (.aload_n 0, 1) := by decide +kernel
theorem dX11_goesBy_20 : decode cX11_goesBy 20 = .ok (.iload_n 3, 1) := by decide +kernel
theorem dX11_goesBy_21 : decode cX11_goesBy 21 = .ok (.iload 4, 2) := by decide +kernel
theorem dX11_goesBy_23 : decode cX11_goesBy 23 = .ok (.iload_n 2, 1) := by decide +kernel
theorem dX11_goesBy_24 : decode cX11_goesBy 24 = .ok (.isub, 1) := by decide +kernel
theorem dX11_goesBy_25 : decode cX11_goesBy 25 = .ok (.invokevirtual 211, 3) := by decide +kernel
theorem dX11_goesBy_28 : decode cX11_goesBy 28 = .ok (.ireturn, 1) := by decide +kernel
theorem dX11_held_0 : decode cX11_held 0 = .ok (.iload_n 0, 1) := by decide +kernel
theorem dX11_held_1 : decode cX11_held 1 = .ok (.sipush 500, 3) := by decide +kernel
theorem dX11_held_4 : decode cX11_held 4 = .ok (.if_icmp .le 9, 3) := by decide +kernel
theorem dX11_held_7 : decode cX11_held 7 = .ok (.sipush 500, 3) := by decide +kernel
theorem dX11_held_10 : decode cX11_held 10 = .ok (.goto 17, 3) := by decide +kernel
theorem dX11_held_13 : decode cX11_held 13 = .ok (.iload_n 0, 1) := by decide +kernel
theorem dX11_held_14 : decode cX11_held 14 = .ok (.sipush (-500), 3) := by decide +kernel
theorem dX11_held_17 : decode cX11_held 17 = .ok (.if_icmp .ge 9, 3) := by decide +kernel
theorem dX11_held_20 : decode cX11_held 20 = .ok (.sipush (-500), 3) := by decide +kernel
theorem dX11_held_23 : decode cX11_held 23 = .ok (.goto 4, 3) := by decide +kernel
theorem dX11_held_26 : decode cX11_held 26 = .ok (.iload_n 0, 1) := by decide +kernel
theorem dX11_held_27 : decode cX11_held 27 = .ok (.ireturn, 1) := by decide +kernel
theorem dX11_lengthSaid_0 : decode cX11_lengthSaid 0 = .ok (.iload_n 1, 1) := by decide +kernel
theorem dX11_lengthSaid_1 : decode cX11_lengthSaid 1 = .ok (.iconst (-1), 1) := by decide +kernel
theorem dX11_lengthSaid_2 : decode cX11_lengthSaid 2 = .ok (.if_icmp .ne 7, 3) := by decide +kernel
theorem dX11_lengthSaid_5 : decode cX11_lengthSaid 5 = .ok (.iconst 0, 1) := by decide +kernel
theorem dX11_lengthSaid_6 : decode cX11_lengthSaid 6 = .ok (.goto 8, 3) := by decide +kernel
theorem dX11_lengthSaid_9 : decode cX11_lengthSaid 9 = .ok (.aload_n 0, 1) := by decide +kernel
theorem dX11_lengthSaid_10 : decode cX11_lengthSaid 10 = .ok (.iload_n 1, 1) := by decide +kernel
theorem dX11_lengthSaid_11 : decode cX11_lengthSaid 11 = .ok (.invokevirtual 201, 3) := by decide +kernel
theorem dX11_lengthSaid_14 : decode cX11_lengthSaid 14 = .ok (.ireturn, 1) := by decide +kernel
theorem dX11_roundNow_0 : decode cX11_roundNow 0 = .ok (.aload_n 0, 1) := by decide +kernel
theorem dX11_roundNow_1 : decode cX11_roundNow 1 = .ok (.iload_n 2, 1) := by decide +kernel
theorem dX11_roundNow_2 : decode cX11_roundNow 2 = .ok (.invokevirtual 214, 3) := by decide +kernel
theorem dX11_roundNow_5 : decode cX11_roundNow 5 = .ok (.istore 5, 2) := by decide +kernel
theorem dX11_roundNow_7 : decode cX11_roundNow 7 = .ok (.aload_n 0, 1) := by decide +kernel
theorem dX11_roundNow_8 : decode cX11_roundNow 8 = .ok (.iload 4, 2) := by decide +kernel
theorem dX11_roundNow_10 : decode cX11_roundNow 10 = .ok (.invokevirtual 214, 3) := by decide +kernel
theorem dX11_roundNow_13 : decode cX11_roundNow 13 = .ok (.istore 6, 2) := by decide +kernel
theorem dX11_roundNow_15 : decode cX11_roundNow 15 = .ok (.aload_n 0, 1) := by decide +kernel
theorem dX11_roundNow_16 : decode cX11_roundNow 16 = .ok (.getfield 31, 3) := by decide +kernel
theorem dX11_roundNow_19 : decode cX11_roundNow 19 = .ok (.iconst 0, 1) := by decide +kernel
theorem dX11_roundNow_20 : decode cX11_roundNow 20 = .ok (.iaload, 1) := by decide +kernel
theorem dX11_roundNow_21 : decode cX11_roundNow 21 = .ok (.istore 7, 2) := by decide +kernel
theorem dX11_roundNow_23 : decode cX11_roundNow 23 = .ok (.aload_n 0, 1) := by decide +kernel
theorem dX11_roundNow_24 : decode cX11_roundNow 24 = .ok (.getfield 31, 3) := by decide +kernel
theorem dX11_roundNow_27 : decode cX11_roundNow 27 = .ok (.iconst 0, 1) := by decide +kernel
theorem dX11_roundNow_28 : decode cX11_roundNow 28 = .ok (.iload 7, 2) := by decide +kernel
theorem dX11_roundNow_30 : decode cX11_roundNow 30 = .ok (.aload_n 0, 1) := by decide +kernel
theorem dX11_roundNow_31 : decode cX11_roundNow 31 = .ok (.iload_n 1, 1) := by decide +kernel
theorem dX11_roundNow_32 : decode cX11_roundNow 32 = .ok (.iload 5, 2) := by decide +kernel
theorem dX11_roundNow_34 : decode cX11_roundNow 34 = .ok (.iload_n 3, 1) := by decide +kernel
theorem dX11_roundNow_35 : decode cX11_roundNow 35 = .ok (.iload 6, 2) := by decide +kernel
theorem dX11_roundNow_37 : decode cX11_roundNow 37 = .ok (.invokevirtual 217, 3) := by decide +kernel
theorem dX11_roundNow_40 : decode cX11_roundNow 40 = .ok (.iadd, 1) := by decide +kernel
theorem dX11_roundNow_41 : decode cX11_roundNow 41 = .ok (.invokestatic 221, 3) := by decide +kernel
theorem dX11_roundNow_44 : decode cX11_roundNow 44 = .ok (.iastore, 1) := by decide +kernel
theorem dX11_roundNow_45 : decode cX11_roundNow 45 = .ok (.aload_n 0, 1) := by decide +kernel
theorem dX11_roundNow_46 : decode cX11_roundNow 46 = .ok (.getfield 31, 3) := by decide +kernel
theorem dX11_roundNow_49 : decode cX11_roundNow 49 = .ok (.iconst 2, 1) := by decide +kernel
theorem dX11_roundNow_50 : decode cX11_roundNow 50 = .ok (.iload_n 1, 1) := by decide +kernel
theorem dX11_roundNow_51 : decode cX11_roundNow 51 = .ok (.iadd, 1) := by decide +kernel
theorem dX11_roundNow_52 : decode cX11_roundNow 52 = .ok (.dup2, 1) := by decide +kernel
theorem dX11_roundNow_53 : decode cX11_roundNow 53 = .ok (.iaload, 1) := by decide +kernel
theorem dX11_roundNow_54 : decode cX11_roundNow 54 = .ok (.iload 5, 2) := by decide +kernel
theorem dX11_roundNow_56 : decode cX11_roundNow 56 = .ok (.isub, 1) := by decide +kernel
theorem dX11_roundNow_57 : decode cX11_roundNow 57 = .ok (.iastore, 1) := by decide +kernel
theorem dX11_roundNow_58 : decode cX11_roundNow 58 = .ok (.aload_n 0, 1) := by decide +kernel
theorem dX11_roundNow_59 : decode cX11_roundNow 59 = .ok (.getfield 31, 3) := by decide +kernel
theorem dX11_roundNow_62 : decode cX11_roundNow 62 = .ok (.iconst 2, 1) := by decide +kernel
theorem dX11_roundNow_63 : decode cX11_roundNow 63 = .ok (.iload_n 3, 1) := by decide +kernel
theorem dX11_roundNow_64 : decode cX11_roundNow 64 = .ok (.iadd, 1) := by decide +kernel
theorem dX11_roundNow_65 : decode cX11_roundNow 65 = .ok (.dup2, 1) := by decide +kernel
theorem dX11_roundNow_66 : decode cX11_roundNow 66 = .ok (.iaload, 1) := by decide +kernel
theorem dX11_roundNow_67 : decode cX11_roundNow 67 = .ok (.iload 6, 2) := by decide +kernel
theorem dX11_roundNow_69 : decode cX11_roundNow 69 = .ok (.isub, 1) := by decide +kernel
theorem dX11_roundNow_70 : decode cX11_roundNow 70 = .ok (.iastore, 1) := by decide +kernel
theorem dX11_roundNow_71 : decode cX11_roundNow 71 = .ok (.iconst 0, 1) := by decide +kernel
theorem dX11_roundNow_72 : decode cX11_roundNow 72 = .ok (.istore 8, 2) := by decide +kernel
theorem dX11_roundNow_74 : decode cX11_roundNow 74 = .ok (.iload 8, 2) := by decide +kernel
theorem dX11_roundNow_76 : decode cX11_roundNow 76 = .ok (.aload_n 0, 1) := by decide +kernel
theorem dX11_roundNow_77 : decode cX11_roundNow 77 = .ok (.getfield 93, 3) := by decide +kernel
theorem dX11_roundNow_80 : decode cX11_roundNow 80 = .ok (.if_icmp .ge 80, 3) := by decide +kernel
theorem dX11_roundNow_83 : decode cX11_roundNow 83 = .ok (.iload 8, 2) := by decide +kernel
theorem dX11_roundNow_85 : decode cX11_roundNow 85 = .ok (.iload_n 1, 1) := by decide +kernel
theorem dX11_roundNow_86 : decode cX11_roundNow 86 = .ok (.if_icmp .ne 8, 3) := by decide +kernel
theorem dX11_roundNow_89 : decode cX11_roundNow 89 = .ok (.iload_n 2, 1) := by decide +kernel
theorem dX11_roundNow_90 : decode cX11_roundNow 90 = .ok (.iconst (-1), 1) := by decide +kernel
theorem dX11_roundNow_91 : decode cX11_roundNow 91 = .ok (.if_icmp .ne 15, 3) := by decide +kernel
theorem dX11_roundNow_94 : decode cX11_roundNow 94 = .ok (.iload 8, 2) := by decide +kernel
theorem dX11_roundNow_96 : decode cX11_roundNow 96 = .ok (.iload_n 3, 1) := by decide +kernel
theorem dX11_roundNow_97 : decode cX11_roundNow 97 = .ok (.if_icmp .ne 13, 3) := by decide +kernel
theorem dX11_roundNow_100 : decode cX11_roundNow 100 = .ok (.iload 4, 2) := by decide +kernel
theorem dX11_roundNow_102 : decode cX11_roundNow 102 = .ok (.iconst (-1), 1) := by decide +kernel
theorem dX11_roundNow_103 : decode cX11_roundNow 103 = .ok (.if_icmp .eq 7, 3) := by decide +kernel
theorem dX11_roundNow_106 : decode cX11_roundNow 106 = .ok (.iconst 1, 1) := by decide +kernel
theorem dX11_roundNow_107 : decode cX11_roundNow 107 = .ok (.goto 4, 3) := by decide +kernel
theorem dX11_roundNow_110 : decode cX11_roundNow 110 = .ok (.iconst 0, 1) := by decide +kernel
theorem dX11_roundNow_111 : decode cX11_roundNow 111 = .ok (.istore 9, 2) := by decide +kernel
theorem dX11_roundNow_113 : decode cX11_roundNow 113 = .ok (.aload_n 0, 1) := by decide +kernel
theorem dX11_roundNow_114 : decode cX11_roundNow 114 = .ok (.getfield 31, 3) := by decide +kernel
theorem dX11_roundNow_117 : decode cX11_roundNow 117 = .ok (.iconst 2, 1) := by decide +kernel
theorem dX11_roundNow_118 : decode cX11_roundNow 118 = .ok (.iload 8, 2) := by decide +kernel
theorem dX11_roundNow_120 : decode cX11_roundNow 120 = .ok (.iadd, 1) := by decide +kernel
theorem dX11_roundNow_121 : decode cX11_roundNow 121 = .ok (.dup2, 1) := by decide +kernel
theorem dX11_roundNow_122 : decode cX11_roundNow 122 = .ok (.iaload, 1) := by decide +kernel
theorem dX11_roundNow_123 : decode cX11_roundNow 123 = .ok (.iload 9, 2) := by decide +kernel
theorem dX11_roundNow_125 : decode cX11_roundNow 125 = .ok (.ifCond .ne 26, 3) := by decide +kernel
theorem dX11_roundNow_128 : decode cX11_roundNow 128 = .ok (.aload_n 0, 1) := by decide +kernel
theorem dX11_roundNow_129 : decode cX11_roundNow 129 = .ok (.getfield 31, 3) := by decide +kernel
theorem dX11_roundNow_132 : decode cX11_roundNow 132 = .ok (.iconst 2, 1) := by decide +kernel
theorem dX11_roundNow_133 : decode cX11_roundNow 133 = .ok (.iload 8, 2) := by decide +kernel
theorem dX11_roundNow_135 : decode cX11_roundNow 135 = .ok (.iadd, 1) := by decide +kernel
theorem dX11_roundNow_136 : decode cX11_roundNow 136 = .ok (.iaload, 1) := by decide +kernel
theorem dX11_roundNow_137 : decode cX11_roundNow 137 = .ok (.aload_n 0, 1) := by decide +kernel
theorem dX11_roundNow_138 : decode cX11_roundNow 138 = .ok (.getfield 19, 3) := by decide +kernel
theorem dX11_roundNow_141 : decode cX11_roundNow 141 = .ok (.iload 8, 2) := by decide +kernel
theorem dX11_roundNow_143 : decode cX11_roundNow 143 = .ok (.iaload, 1) := by decide +kernel
theorem dX11_roundNow_144 : decode cX11_roundNow 144 = .ok (.if_icmp .ge 7, 3) := by decide +kernel
theorem dX11_roundNow_147 : decode cX11_roundNow 147 = .ok (.iconst 1, 1) := by decide +kernel
theorem dX11_roundNow_148 : decode cX11_roundNow 148 = .ok (.goto 4, 3) := by decide +kernel
theorem dX11_roundNow_151 : decode cX11_roundNow 151 = .ok (.iconst 0, 1) := by decide +kernel
theorem dX11_roundNow_152 : decode cX11_roundNow 152 = .ok (.iadd, 1) := by decide +kernel
theorem dX11_roundNow_153 : decode cX11_roundNow 153 = .ok (.iastore, 1) := by decide +kernel
theorem dX11_roundNow_154 : decode cX11_roundNow 154 = .ok (.iinc 8 1, 3) := by decide +kernel
theorem dX11_roundNow_157 : decode cX11_roundNow 157 = .ok (.goto (-83), 3) := by decide +kernel
theorem dX11_roundNow_160 : decode cX11_roundNow 160 = .ok (.iload_n 2, 1) := by decide +kernel
theorem dX11_roundNow_161 : decode cX11_roundNow 161 = .ok (.iconst (-1), 1) := by decide +kernel
theorem dX11_roundNow_162 : decode cX11_roundNow 162 = .ok (.if_icmp .eq 8, 3) := by decide +kernel
theorem dX11_roundNow_165 : decode cX11_roundNow 165 = .ok (.aload_n 0, 1) := by decide +kernel
theorem dX11_roundNow_166 : decode cX11_roundNow 166 = .ok (.iload_n 2, 1) := by decide +kernel
theorem dX11_roundNow_167 : decode cX11_roundNow 167 = .ok (.invokevirtual 224, 3) := by decide +kernel
theorem dX11_roundNow_170 : decode cX11_roundNow 170 = .ok (.iload 4, 2) := by decide +kernel
theorem dX11_roundNow_172 : decode cX11_roundNow 172 = .ok (.iconst (-1), 1) := by decide +kernel
theorem dX11_roundNow_173 : decode cX11_roundNow 173 = .ok (.if_icmp .eq 9, 3) := by decide +kernel
theorem dX11_roundNow_176 : decode cX11_roundNow 176 = .ok (.aload_n 0, 1) := by decide +kernel
theorem dX11_roundNow_177 : decode cX11_roundNow 177 = .ok (.iload 4, 2) := by decide +kernel
theorem dX11_roundNow_179 : decode cX11_roundNow 179 = .ok (.invokevirtual 224, 3) := by decide +kernel
theorem dX11_roundNow_182 : decode cX11_roundNow 182 = .ok (.aload_n 0, 1) := by decide +kernel
theorem dX11_roundNow_183 : decode cX11_roundNow 183 = .ok (.getfield 31, 3) := by decide +kernel
theorem dX11_roundNow_186 : decode cX11_roundNow 186 = .ok (.iconst 1, 1) := by decide +kernel
theorem dX11_roundNow_187 : decode cX11_roundNow 187 = .ok (.dup2, 1) := by decide +kernel
theorem dX11_roundNow_188 : decode cX11_roundNow 188 = .ok (.iaload, 1) := by decide +kernel
theorem dX11_roundNow_189 : decode cX11_roundNow 189 = .ok (.iconst 1, 1) := by decide +kernel
theorem dX11_roundNow_190 : decode cX11_roundNow 190 = .ok (.iadd, 1) := by decide +kernel
theorem dX11_roundNow_191 : decode cX11_roundNow 191 = .ok (.iastore, 1) := by decide +kernel
theorem dX11_roundNow_192 : decode cX11_roundNow 192 = .ok (.aload_n 0, 1) := by decide +kernel
theorem dX11_roundNow_193 : decode cX11_roundNow 193 = .ok (.getfield 31, 3) := by decide +kernel
theorem dX11_roundNow_196 : decode cX11_roundNow 196 = .ok (.iconst 0, 1) := by decide +kernel
theorem dX11_roundNow_197 : decode cX11_roundNow 197 = .ok (.iaload, 1) := by decide +kernel
theorem dX11_roundNow_198 : decode cX11_roundNow 198 = .ok (.iload 7, 2) := by decide +kernel
theorem dX11_roundNow_200 : decode cX11_roundNow 200 = .ok (.isub, 1) := by decide +kernel
theorem dX11_roundNow_201 : decode cX11_roundNow 201 = .ok (.ireturn, 1) := by decide +kernel
theorem dX11_canSay_0 : decode cX11_canSay 0 = .ok (.iload_n 2, 1) := by decide +kernel
theorem dX11_canSay_1 : decode cX11_canSay 1 = .ok (.iconst (-1), 1) := by decide +kernel
theorem dX11_canSay_2 : decode cX11_canSay 2 = .ok (.if_icmp .eq 35, 3) := by decide +kernel
theorem dX11_canSay_5 : decode cX11_canSay 5 = .ok (.aload_n 0, 1) := by decide +kernel
theorem dX11_canSay_6 : decode cX11_canSay 6 = .ok (.iload_n 2, 1) := by decide +kernel
theorem dX11_canSay_7 : decode cX11_canSay 7 = .ok (.invokevirtual 201, 3) := by decide +kernel
theorem dX11_canSay_10 : decode cX11_canSay 10 = .ok (.ifCond .lt 31, 3) := by decide +kernel
theorem dX11_canSay_13 : decode cX11_canSay 13 = .ok (.aload_n 0, 1) := by decide +kernel
theorem dX11_canSay_14 : decode cX11_canSay 14 = .ok (.iload_n 2, 1) := by decide +kernel
theorem dX11_canSay_15 : decode cX11_canSay 15 = .ok (.invokevirtual 228, 3) := by decide +kernel
theorem dX11_canSay_18 : decode cX11_canSay 18 = .ok (.ifCond .ne 23, 3) := by decide +kernel
theorem dX11_canSay_21 : decode cX11_canSay 21 = .ok (.aload_n 0, 1) := by decide +kernel
theorem dX11_canSay_22 : decode cX11_canSay 22 = .ok (.iload_n 2, 1) := by decide +kernel
theorem dX11_canSay_23 : decode cX11_canSay 23 = .ok (.invokevirtual 201, 3) := by decide +kernel
theorem dX11_canSay_26 : decode cX11_canSay 26 = .ok (.aload_n 0, 1) := by decide +kernel
theorem dX11_canSay_27 : decode cX11_canSay 27 = .ok (.getfield 31, 3) := by decide +kernel
theorem dX11_canSay_30 : decode cX11_canSay 30 = .ok (.iconst 2, 1) := by decide +kernel
theorem dX11_canSay_31 : decode cX11_canSay 31 = .ok (.iload_n 1, 1) := by decide +kernel
theorem dX11_canSay_32 : decode cX11_canSay 32 = .ok (.iadd, 1) := by decide +kernel
theorem dX11_canSay_33 : decode cX11_canSay 33 = .ok (.iaload, 1) := by decide +kernel
theorem dX11_canSay_34 : decode cX11_canSay 34 = .ok (.if_icmp .gt 7, 3) := by decide +kernel
theorem dX11_canSay_37 : decode cX11_canSay 37 = .ok (.iconst 1, 1) := by decide +kernel
theorem dX11_canSay_38 : decode cX11_canSay 38 = .ok (.goto 4, 3) := by decide +kernel
theorem dX11_canSay_41 : decode cX11_canSay 41 = .ok (.iconst 0, 1) := by decide +kernel
theorem dX11_canSay_42 : decode cX11_canSay 42 = .ok (.ireturn, 1) := by decide +kernel
theorem dX11_round_0 : decode cX11_round 0 = .ok (.aload_n 0, 1) := by decide +kernel
theorem dX11_round_1 : decode cX11_round 1 = .ok (.iload_n 1, 1) := by decide +kernel
theorem dX11_round_2 : decode cX11_round 2 = .ok (.iconst 0, 1) := by decide +kernel
theorem dX11_round_3 : decode cX11_round 3 = .ok (.invokevirtual 231, 3) := by decide +kernel
theorem dX11_round_6 : decode cX11_round 6 = .ok (.ifCond .eq 12, 3) := by decide +kernel
theorem dX11_round_9 : decode cX11_round 9 = .ok (.aload_n 0, 1) := by decide +kernel
theorem dX11_round_10 : decode cX11_round 10 = .ok (.iload_n 3, 1) := by decide +kernel
theorem dX11_round_11 : decode cX11_round 11 = .ok (.iconst 1, 1) := by decide +kernel
theorem dX11_round_12 : decode cX11_round 12 = .ok (.invokevirtual 231, 3) := by decide +kernel
theorem dX11_round_15 : decode cX11_round 15 = .ok (.ifCond .ne 6, 3) := by decide +kernel
theorem dX11_round_18 : decode cX11_round 18 = .ok (.ldc 200, 2) := by decide +kernel
theorem dX11_round_20 : decode cX11_round 20 = .ok (.ireturn, 1) := by decide +kernel
theorem dX11_round_21 : decode cX11_round 21 = .ok (.aload_n 0, 1) := by decide +kernel
theorem dX11_round_22 : decode cX11_round 22 = .ok (.iload_n 1, 1) := by decide +kernel
theorem dX11_round_23 : decode cX11_round 23 = .ok (.iload_n 2, 1) := by decide +kernel
theorem dX11_round_24 : decode cX11_round 24 = .ok (.invokevirtual 234, 3) := by decide +kernel
theorem dX11_round_27 : decode cX11_round 27 = .ok (.ifCond .eq 24, 3) := by decide +kernel
theorem dX11_round_30 : decode cX11_round 30 = .ok (.aload_n 0, 1) := by decide +kernel
theorem dX11_round_31 : decode cX11_round 31 = .ok (.iload_n 3, 1) := by decide +kernel
theorem dX11_round_32 : decode cX11_round 32 = .ok (.iload 4, 2) := by decide +kernel
theorem dX11_round_34 : decode cX11_round 34 = .ok (.invokevirtual 234, 3) := by decide +kernel
theorem dX11_round_37 : decode cX11_round 37 = .ok (.ifCond .eq 14, 3) := by decide +kernel
theorem dX11_round_40 : decode cX11_round 40 = .ok (.iload_n 2, 1) := by decide +kernel
theorem dX11_round_41 : decode cX11_round 41 = .ok (.iconst (-1), 1) := by decide +kernel
theorem dX11_round_42 : decode cX11_round 42 = .ok (.if_icmp .eq 12, 3) := by decide +kernel
theorem dX11_round_45 : decode cX11_round 45 = .ok (.iload_n 2, 1) := by decide +kernel
theorem dX11_round_46 : decode cX11_round 46 = .ok (.iload 4, 2) := by decide +kernel
theorem dX11_round_48 : decode cX11_round 48 = .ok (.if_icmp .ne 6, 3) := by decide +kernel
theorem dX11_round_51 : decode cX11_round 51 = .ok (.ldc 237, 2) := by decide +kernel
theorem dX11_round_53 : decode cX11_round 53 = .ok (.ireturn, 1) := by decide +kernel
theorem dX11_round_54 : decode cX11_round 54 = .ok (.aload_n 0, 1) := by decide +kernel
theorem dX11_round_55 : decode cX11_round 55 = .ok (.getfield 31, 3) := by decide +kernel
theorem dX11_round_58 : decode cX11_round 58 = .ok (.iconst 1, 1) := by decide +kernel
theorem dX11_round_59 : decode cX11_round 59 = .ok (.iaload, 1) := by decide +kernel
theorem dX11_round_60 : decode cX11_round 60 = .ok (.ldc 238, 2) := by decide +kernel
theorem dX11_round_62 : decode cX11_round 62 = .ok (.if_icmp .le 6, 3) := by decide +kernel
theorem dX11_round_65 : decode cX11_round 65 = .ok (.ldc 110, 2) := by decide +kernel
theorem dX11_round_67 : decode cX11_round 67 = .ok (.ireturn, 1) := by decide +kernel
theorem dX11_round_68 : decode cX11_round 68 = .ok (.aload_n 0, 1) := by decide +kernel
theorem dX11_round_69 : decode cX11_round 69 = .ok (.invokevirtual 239, 3) := by decide +kernel
theorem dX11_round_72 : decode cX11_round 72 = .ok (.aload_n 0, 1) := by decide +kernel
theorem dX11_round_73 : decode cX11_round 73 = .ok (.iload_n 1, 1) := by decide +kernel
theorem dX11_round_74 : decode cX11_round 74 = .ok (.iload_n 2, 1) := by decide +kernel
theorem dX11_round_75 : decode cX11_round 75 = .ok (.iload_n 3, 1) := by decide +kernel
theorem dX11_round_76 : decode cX11_round 76 = .ok (.iload 4, 2) := by decide +kernel
theorem dX11_round_78 : decode cX11_round 78 = .ok (.invokevirtual 242, 3) := by decide +kernel
theorem dX11_round_81 : decode cX11_round 81 = .ok (.ireturn, 1) := by decide +kernel
theorem dX11_draw_0 : decode cX11_draw 0 = .ok (.aload_n 0, 1) := by decide +kernel
theorem dX11_draw_1 : decode cX11_draw 1 = .ok (.aload_n 0, 1) := by decide +kernel
theorem dX11_draw_2 : decode cX11_draw 2 = .ok (.getfield 245, 3) := by decide +kernel
theorem dX11_draw_5 : decode cX11_draw 5 = .ok (.i2l, 1) := by decide +kernel
theorem dX11_draw_6 : decode cX11_draw 6 = .ok (.ldc2_w 248, 3) := by decide +kernel
theorem dX11_draw_9 : decode cX11_draw 9 = .ok (.lmul, 1) := by decide +kernel
theorem dX11_draw_10 : decode cX11_draw 10 = .ok (.ldc2_w 250, 3) := by decide +kernel
theorem dX11_draw_13 : decode cX11_draw 13 = .ok (.ladd, 1) := by decide +kernel
theorem dX11_draw_14 : decode cX11_draw 14 = .ok (.ldc2_w 252, 3) := by decide +kernel
theorem dX11_draw_17 : decode cX11_draw 17 = .ok (.lrem, 1) := by decide +kernel
theorem dX11_draw_18 : decode cX11_draw 18 = .ok (.l2i, 1) := by decide +kernel
theorem dX11_draw_19 : decode cX11_draw 19 = .ok (.putfield 245, 3) := by decide +kernel
theorem dX11_draw_22 : decode cX11_draw 22 = .ok (.aload_n 0, 1) := by decide +kernel
theorem dX11_draw_23 : decode cX11_draw 23 = .ok (.getfield 245, 3) := by decide +kernel
theorem dX11_draw_26 : decode cX11_draw 26 = .ok (.ldc 254, 2) := by decide +kernel
theorem dX11_draw_28 : decode cX11_draw 28 = .ok (.idiv, 1) := by decide +kernel
theorem dX11_draw_29 : decode cX11_draw 29 = .ok (.iload_n 1, 1) := by decide +kernel
theorem dX11_draw_30 : decode cX11_draw 30 = .ok (.irem, 1) := by decide +kernel
theorem dX11_draw_31 : decode cX11_draw 31 = .ok (.ireturn, 1) := by decide +kernel
theorem dX11_manyOfSide_0 : decode cX11_manyOfSide 0 = .ok (.iconst 0, 1) := by decide +kernel
theorem dX11_manyOfSide_1 : decode cX11_manyOfSide 1 = .ok (.istore_n 2, 1) := by decide +kernel
theorem dX11_manyOfSide_2 : decode cX11_manyOfSide 2 = .ok (.iconst 0, 1) := by decide +kernel
theorem dX11_manyOfSide_3 : decode cX11_manyOfSide 3 = .ok (.istore_n 3, 1) := by decide +kernel
theorem dX11_manyOfSide_4 : decode cX11_manyOfSide 4 = .ok (.iload_n 3, 1) := by decide +kernel
theorem dX11_manyOfSide_5 : decode cX11_manyOfSide 5 = .ok (.aload_n 0, 1) := by decide +kernel
theorem dX11_manyOfSide_6 : decode cX11_manyOfSide 6 = .ok (.getfield 93, 3) := by decide +kernel
theorem dX11_manyOfSide_9 : decode cX11_manyOfSide 9 = .ok (.if_icmp .ge 27, 3) := by decide +kernel
theorem dX11_manyOfSide_12 : decode cX11_manyOfSide 12 = .ok (.iload_n 2, 1) := by decide +kernel
theorem dX11_manyOfSide_13 : decode cX11_manyOfSide 13 = .ok (.aload_n 0, 1) := by decide +kernel
theorem dX11_manyOfSide_14 : decode cX11_manyOfSide 14 = .ok (.getfield 16, 3) := by decide +kernel
theorem dX11_manyOfSide_17 : decode cX11_manyOfSide 17 = .ok (.iload_n 3, 1) := by decide +kernel
theorem dX11_manyOfSide_18 : decode cX11_manyOfSide 18 = .ok (.iaload, 1) := by decide +kernel
theorem dX11_manyOfSide_19 : decode cX11_manyOfSide 19 = .ok (.iload_n 1, 1) := by decide +kernel
theorem dX11_manyOfSide_20 : decode cX11_manyOfSide 20 = .ok (.if_icmp .ne 7, 3) := by decide +kernel
theorem dX11_manyOfSide_23 : decode cX11_manyOfSide 23 = .ok (.iconst 1, 1) := by decide +kernel
theorem dX11_manyOfSide_24 : decode cX11_manyOfSide 24 = .ok (.goto 4, 3) := by decide +kernel
theorem dX11_manyOfSide_27 : decode cX11_manyOfSide 27 = .ok (.iconst 0, 1) := by decide +kernel
theorem dX11_manyOfSide_28 : decode cX11_manyOfSide 28 = .ok (.iadd, 1) := by decide +kernel
theorem dX11_manyOfSide_29 : decode cX11_manyOfSide 29 = .ok (.istore_n 2, 1) := by decide +kernel
theorem dX11_manyOfSide_30 : decode cX11_manyOfSide 30 = .ok (.iinc 3 1, 3) := by decide +kernel
theorem dX11_manyOfSide_33 : decode cX11_manyOfSide 33 = .ok (.goto (-29), 3) := by decide +kernel
theorem dX11_manyOfSide_36 : decode cX11_manyOfSide 36 = .ok (.iload_n 2, 1) := by decide +kernel
theorem dX11_manyOfSide_37 : decode cX11_manyOfSide 37 = .ok (.ireturn, 1) := by decide +kernel
theorem dX11_speakerOf_0 : decode cX11_speakerOf 0 = .ok (.iload_n 2, 1) := by decide +kernel
theorem dX11_speakerOf_1 : decode cX11_speakerOf 1 = .ok (.istore_n 3, 1) := by decide +kernel
theorem dX11_speakerOf_2 : decode cX11_speakerOf 2 = .ok (.iconst 0, 1) := by decide +kernel
theorem dX11_speakerOf_3 : decode cX11_speakerOf 3 = .ok (.istore 4, 2) := by decide +kernel
theorem dX11_speakerOf_5 : decode cX11_speakerOf 5 = .ok (.iload 4, 2) := by decide +kernel
theorem dX11_speakerOf_7 : decode cX11_speakerOf 7 = .ok (.aload_n 0, 1) := by decide +kernel
theorem dX11_speakerOf_8 : decode cX11_speakerOf 8 = .ok (.getfield 93, 3) := by decide +kernel
theorem dX11_speakerOf_11 : decode cX11_speakerOf 11 = .ok (.if_icmp .ge 30, 3) := by decide +kernel
theorem dX11_speakerOf_14 : decode cX11_speakerOf 14 = .ok (.aload_n 0, 1) := by decide +kernel
theorem dX11_speakerOf_15 : decode cX11_speakerOf 15 = .ok (.getfield 16, 3) := by decide +kernel
theorem dX11_speakerOf_18 : decode cX11_speakerOf 18 = .ok (.iload 4, 2) := by decide +kernel
theorem dX11_speakerOf_20 : decode cX11_speakerOf 20 = .ok (.iaload, 1) := by decide +kernel
theorem dX11_speakerOf_21 : decode cX11_speakerOf 21 = .ok (.iload_n 1, 1) := by decide +kernel
theorem dX11_speakerOf_22 : decode cX11_speakerOf 22 = .ok (.if_icmp .ne 13, 3) := by decide +kernel
theorem dX11_speakerOf_25 : decode cX11_speakerOf 25 = .ok (.iload_n 3, 1) := by decide +kernel
theorem dX11_speakerOf_26 : decode cX11_speakerOf 26 = .ok (.ifCond .ne 6, 3) := by decide +kernel
theorem dX11_speakerOf_29 : decode cX11_speakerOf 29 = .ok (.iload 4, 2) := by decide +kernel
theorem dX11_speakerOf_31 : decode cX11_speakerOf 31 = .ok (.ireturn, 1) := by decide +kernel
theorem dX11_speakerOf_32 : decode cX11_speakerOf 32 = .ok (.iinc 3 (-1), 3) := by decide +kernel
theorem dX11_speakerOf_35 : decode cX11_speakerOf 35 = .ok (.iinc 4 1, 3) := by decide +kernel
theorem dX11_speakerOf_38 : decode cX11_speakerOf 38 = .ok (.goto (-33), 3) := by decide +kernel
theorem dX11_speakerOf_41 : decode cX11_speakerOf 41 = .ok (.iconst (-1), 1) := by decide +kernel
theorem dX11_speakerOf_42 : decode cX11_speakerOf 42 = .ok (.ireturn, 1) := by decide +kernel
theorem dX11_drawn_0 : decode cX11_drawn 0 = .ok (.aload_n 0, 1) := by decide +kernel
theorem dX11_drawn_1 : decode cX11_drawn 1 = .ok (.bipush 100, 2) := by decide +kernel
theorem dX11_drawn_3 : decode cX11_drawn 3 = .ok (.invokevirtual 255, 3) := by decide +kernel
theorem dX11_drawn_6 : decode cX11_drawn 6 = .ok (.aload_n 0, 1) := by decide +kernel
theorem dX11_drawn_7 : decode cX11_drawn 7 = .ok (.getfield 25, 3) := by decide +kernel
theorem dX11_drawn_10 : decode cX11_drawn 10 = .ok (.iload_n 1, 1) := by decide +kernel
theorem dX11_drawn_11 : decode cX11_drawn 11 = .ok (.iaload, 1) := by decide +kernel
theorem dX11_drawn_12 : decode cX11_drawn 12 = .ok (.if_icmp .ge 7, 3) := by decide +kernel
theorem dX11_drawn_15 : decode cX11_drawn 15 = .ok (.iconst 1, 1) := by decide +kernel
theorem dX11_drawn_16 : decode cX11_drawn 16 = .ok (.goto 4, 3) := by decide +kernel
theorem dX11_drawn_19 : decode cX11_drawn 19 = .ok (.iconst 0, 1) := by decide +kernel
theorem dX11_drawn_20 : decode cX11_drawn 20 = .ok (.istore_n 3, 1) := by decide +kernel
theorem dX11_drawn_21 : decode cX11_drawn 21 = .ok (.aload_n 0, 1) := by decide +kernel
theorem dX11_drawn_22 : decode cX11_drawn 22 = .ok (.aload_n 0, 1) := by decide +kernel
theorem dX11_drawn_23 : decode cX11_drawn 23 = .ok (.getfield 31, 3) := by decide +kernel
theorem dX11_drawn_26 : decode cX11_drawn 26 = .ok (.iconst 2, 1) := by decide +kernel
theorem dX11_drawn_27 : decode cX11_drawn 27 = .ok (.iload_n 1, 1) := by decide +kernel
theorem dX11_drawn_28 : decode cX11_drawn 28 = .ok (.iadd, 1) := by decide +kernel
theorem dX11_drawn_29 : decode cX11_drawn 29 = .ok (.iaload, 1) := by decide +kernel
theorem dX11_drawn_30 : decode cX11_drawn 30 = .ok (.invokevirtual 208, 3) := by decide +kernel
theorem dX11_drawn_33 : decode cX11_drawn 33 = .ok (.istore 4, 2) := by decide +kernel
theorem dX11_drawn_35 : decode cX11_drawn 35 = .ok (.iload 4, 2) := by decide +kernel
theorem dX11_drawn_37 : decode cX11_drawn 37 = .ok (.ifCond .ge 7, 3) := by decide +kernel
theorem dX11_drawn_40 : decode cX11_drawn 40 = .ok (.iconst (-1), 1) := by decide +kernel
theorem dX11_drawn_41 : decode cX11_drawn 41 = .ok (.goto 10, 3) := by decide +kernel
theorem dX11_drawn_44 : decode cX11_drawn 44 = .ok (.aload_n 0, 1) := by decide +kernel
theorem dX11_drawn_45 : decode cX11_drawn 45 = .ok (.getfield 65, 3) := by decide +kernel
theorem dX11_drawn_48 : decode cX11_drawn 48 = .ok (.iload 4, 2) := by decide +kernel
theorem dX11_drawn_50 : decode cX11_drawn 50 = .ok (.iaload, 1) := by decide +kernel
theorem dX11_drawn_51 : decode cX11_drawn 51 = .ok (.istore 5, 2) := by decide +kernel
theorem dX11_drawn_53 : decode cX11_drawn 53 = .ok (.iload_n 3, 1) := by decide +kernel
theorem dX11_drawn_54 : decode cX11_drawn 54 = .ok (.ifCond .ne 24, 3) := by decide +kernel
theorem dX11_drawn_57 : decode cX11_drawn 57 = .ok (.iload 5, 2) := by decide +kernel
theorem dX11_drawn_59 : decode cX11_drawn 59 = .ok (.iconst (-1), 1) := by decide +kernel
theorem dX11_drawn_60 : decode cX11_drawn 60 = .ok (.if_icmp .eq 18, 3) := by decide +kernel
theorem dX11_drawn_63 : decode cX11_drawn 63 = .ok (.iload 5, 2) := by decide +kernel
theorem dX11_drawn_65 : decode cX11_drawn 65 = .ok (.iload_n 2, 1) := by decide +kernel
theorem dX11_drawn_66 : decode cX11_drawn 66 = .ok (.if_icmp .eq 12, 3) := by decide +kernel
theorem dX11_drawn_69 : decode cX11_drawn 69 = .ok (.aload_n 0, 1) := by decide +kernel
theorem dX11_drawn_70 : decode cX11_drawn 70 = .ok (.iload 5, 2) := by decide +kernel
theorem dX11_drawn_72 : decode cX11_drawn 72 = .ok (.invokevirtual 228, 3) := by decide +kernel
theorem dX11_drawn_75 : decode cX11_drawn 75 = .ok (.ifCond .eq 7, 3) := by decide +kernel
theorem dX11_drawn_78 : decode cX11_drawn 78 = .ok (.iconst (-1), 1) := by decide +kernel
theorem dX11_drawn_79 : decode cX11_drawn 79 = .ok (.goto 5, 3) := by decide +kernel
theorem dX11_drawn_82 : decode cX11_drawn 82 = .ok (.iload 5, 2) := by decide +kernel
theorem dX11_drawn_84 : decode cX11_drawn 84 = .ok (.ireturn, 1) := by decide +kernel
theorem dX11_drift_0 : decode cX11_drift 0 = .ok (.iload_n 1, 1) := by decide +kernel
theorem dX11_drift_1 : decode cX11_drift 1 = .ok (.i2l, 1) := by decide +kernel
theorem dX11_drift_2 : decode cX11_drift 2 = .ok (.lconst 1, 1) := by decide +kernel
theorem dX11_drift_3 : decode cX11_drift 3 = .ok (.ldc2_w 206, 3) := by decide +kernel
theorem dX11_drift_6 : decode cX11_drift 6 = .ok (.invokestatic 96, 3) := by decide +kernel
theorem dX11_drift_9 : decode cX11_drift 9 = .ok (.ifCond .ne 6, 3) := by decide +kernel
theorem dX11_drift_12 : decode cX11_drift 12 = .ok (.ldc 106, 2) := by decide +kernel
theorem dX11_drift_14 : decode cX11_drift 14 = .ok (.ireturn, 1) := by decide +kernel
theorem dX11_drift_15 : decode cX11_drift 15 = .ok (.aload_n 0, 1) := by decide +kernel
theorem dX11_drift_16 : decode cX11_drift 16 = .ok (.iconst 0, 1) := by decide +kernel
theorem dX11_drift_17 : decode cX11_drift 17 = .ok (.invokevirtual 258, 3) := by decide +kernel
theorem dX11_drift_20 : decode cX11_drift 20 = .ok (.ifCond .eq 11, 3) := by decide +kernel
theorem dX11_drift_23 : decode cX11_drift 23 = .ok (.aload_n 0, 1) := by decide +kernel
theorem dX11_drift_24 : decode cX11_drift 24 = .ok (.iconst 1, 1) := by decide +kernel
theorem dX11_drift_25 : decode cX11_drift 25 = .ok (.invokevirtual 258, 3) := by decide +kernel
theorem dX11_drift_28 : decode cX11_drift 28 = .ok (.ifCond .ne 6, 3) := by decide +kernel
theorem dX11_drift_31 : decode cX11_drift 31 = .ok (.ldc 237, 2) := by decide +kernel
theorem dX11_drift_33 : decode cX11_drift 33 = .ok (.ireturn, 1) := by decide +kernel
theorem dX11_drift_34 : decode cX11_drift 34 = .ok (.aload_n 0, 1) := by decide +kernel
theorem dX11_drift_35 : decode cX11_drift 35 = .ok (.getfield 31, 3) := by decide +kernel
theorem dX11_drift_38 : decode cX11_drift 38 = .ok (.iconst 1, 1) := by decide +kernel
theorem dX11_drift_39 : decode cX11_drift 39 = .ok (.iaload, 1) := by decide +kernel
theorem dX11_drift_40 : decode cX11_drift 40 = .ok (.ldc 238, 2) := by decide +kernel
theorem dX11_drift_42 : decode cX11_drift 42 = .ok (.if_icmp .le 6, 3) := by decide +kernel
theorem dX11_drift_45 : decode cX11_drift 45 = .ok (.ldc 110, 2) := by decide +kernel
theorem dX11_drift_47 : decode cX11_drift 47 = .ok (.ireturn, 1) := by decide +kernel
theorem dX11_drift_48 : decode cX11_drift 48 = .ok (.aload_n 0, 1) := by decide +kernel
theorem dX11_drift_49 : decode cX11_drift 49 = .ok (.invokevirtual 239, 3) := by decide +kernel
theorem dX11_drift_52 : decode cX11_drift 52 = .ok (.iconst 0, 1) := by decide +kernel
theorem dX11_drift_53 : decode cX11_drift 53 = .ok (.istore_n 2, 1) := by decide +kernel
theorem dX11_drift_54 : decode cX11_drift 54 = .ok (.iload_n 2, 1) := by decide +kernel
theorem dX11_drift_55 : decode cX11_drift 55 = .ok (.iload_n 1, 1) := by decide +kernel
theorem dX11_drift_56 : decode cX11_drift 56 = .ok (.if_icmp .ge 71, 3) := by decide +kernel
theorem dX11_drift_59 : decode cX11_drift 59 = .ok (.aload_n 0, 1) := by decide +kernel
theorem dX11_drift_60 : decode cX11_drift 60 = .ok (.iconst 0, 1) := by decide +kernel
theorem dX11_drift_61 : decode cX11_drift 61 = .ok (.aload_n 0, 1) := by decide +kernel
theorem dX11_drift_62 : decode cX11_drift 62 = .ok (.aload_n 0, 1) := by decide +kernel
theorem dX11_drift_63 : decode cX11_drift 63 = .ok (.iconst 0, 1) := by decide +kernel
theorem dX11_drift_64 : decode cX11_drift 64 = .ok (.invokevirtual 258, 3) := by decide +kernel
theorem dX11_drift_67 : decode cX11_drift 67 = .ok (.invokevirtual 255, 3) := by decide +kernel
theorem dX11_drift_70 : decode cX11_drift 70 = .ok (.invokevirtual 261, 3) := by decide +kernel
theorem dX11_drift_73 : decode cX11_drift 73 = .ok (.istore_n 3, 1) := by decide +kernel
theorem dX11_drift_74 : decode cX11_drift 74 = .ok (.aload_n 0, 1) := by decide +kernel
theorem dX11_drift_75 : decode cX11_drift 75 = .ok (.iload_n 3, 1) := by decide +kernel
theorem dX11_drift_76 : decode cX11_drift 76 = .ok (.iconst (-1), 1) := by decide +kernel
theorem dX11_drift_77 : decode cX11_drift 77 = .ok (.invokevirtual 264, 3) := by decide +kernel
theorem dX11_drift_80 : decode cX11_drift 80 = .ok (.istore 4, 2) := by decide +kernel
theorem dX11_drift_82 : decode cX11_drift 82 = .ok (.aload_n 0, 1) := by decide +kernel
theorem dX11_drift_83 : decode cX11_drift 83 = .ok (.iconst 1, 1) := by decide +kernel
theorem dX11_drift_84 : decode cX11_drift 84 = .ok (.aload_n 0, 1) := by decide +kernel
theorem dX11_drift_85 : decode cX11_drift 85 = .ok (.aload_n 0, 1) := by decide +kernel
theorem dX11_drift_86 : decode cX11_drift 86 = .ok (.iconst 1, 1) := by decide +kernel
theorem dX11_drift_87 : decode cX11_drift 87 = .ok (.invokevirtual 258, 3) := by decide +kernel
theorem dX11_drift_90 : decode cX11_drift 90 = .ok (.invokevirtual 255, 3) := by decide +kernel
theorem dX11_drift_93 : decode cX11_drift 93 = .ok (.invokevirtual 261, 3) := by decide +kernel
theorem dX11_drift_96 : decode cX11_drift 96 = .ok (.istore 5, 2) := by decide +kernel
theorem dX11_drift_98 : decode cX11_drift 98 = .ok (.aload_n 0, 1) := by decide +kernel
theorem dX11_drift_99 : decode cX11_drift 99 = .ok (.iload 5, 2) := by decide +kernel
theorem dX11_drift_101 : decode cX11_drift 101 = .ok (.iload 4, 2) := by decide +kernel
theorem dX11_drift_103 : decode cX11_drift 103 = .ok (.invokevirtual 264, 3) := by decide +kernel
theorem dX11_drift_106 : decode cX11_drift 106 = .ok (.istore 6, 2) := by decide +kernel
theorem dX11_drift_108 : decode cX11_drift 108 = .ok (.aload_n 0, 1) := by decide +kernel
theorem dX11_drift_109 : decode cX11_drift 109 = .ok (.iload_n 3, 1) := by decide +kernel
theorem dX11_drift_110 : decode cX11_drift 110 = .ok (.iload 4, 2) := by decide +kernel
theorem dX11_drift_112 : decode cX11_drift 112 = .ok (.iload 5, 2) := by decide +kernel
theorem dX11_drift_114 : decode cX11_drift 114 = .ok (.iload 6, 2) := by decide +kernel
theorem dX11_drift_116 : decode cX11_drift 116 = .ok (.invokevirtual 242, 3) := by decide +kernel
theorem dX11_drift_119 : decode cX11_drift 119 = .ok (.istore 7, 2) := by decide +kernel
theorem dX11_drift_121 : decode cX11_drift 121 = .ok (.iinc 2 1, 3) := by decide +kernel
theorem dX11_drift_124 : decode cX11_drift 124 = .ok (.goto (-70), 3) := by decide +kernel
theorem dX11_drift_127 : decode cX11_drift 127 = .ok (.aload_n 0, 1) := by decide +kernel
theorem dX11_drift_128 : decode cX11_drift 128 = .ok (.getfield 31, 3) := by decide +kernel
theorem dX11_drift_131 : decode cX11_drift 131 = .ok (.iconst 0, 1) := by decide +kernel
theorem dX11_drift_132 : decode cX11_drift 132 = .ok (.iaload, 1) := by decide +kernel
theorem dX11_drift_133 : decode cX11_drift 133 = .ok (.sipush 1000, 3) := by decide +kernel
theorem dX11_drift_136 : decode cX11_drift 136 = .ok (.iadd, 1) := by decide +kernel
theorem dX11_drift_137 : decode cX11_drift 137 = .ok (.ireturn, 1) := by decide +kernel
theorem dX11_undo_0 : decode cX11_undo 0 = .ok (.aload_n 0, 1) := by decide +kernel
theorem dX11_undo_1 : decode cX11_undo 1 = .ok (.getfield 197, 3) := by decide +kernel
theorem dX11_undo_4 : decode cX11_undo 4 = .ok (.ifCond .ne 6, 3) := by decide +kernel
theorem dX11_undo_7 : decode cX11_undo 7 = .ok (.ldc 237, 2) := by decide +kernel
theorem dX11_undo_9 : decode cX11_undo 9 = .ok (.ireturn, 1) := by decide +kernel
theorem dX11_undo_10 : decode cX11_undo 10 = .ok (.aload_n 0, 1) := by decide +kernel
theorem dX11_undo_11 : decode cX11_undo 11 = .ok (.dup, 1) := by decide +kernel
theorem dX11_undo_12 : decode cX11_undo 12 = .ok (.getfield 197, 3) := by decide +kernel
theorem dX11_undo_15 : decode cX11_undo 15 = .ok (.iconst 1, 1) := by decide +kernel
theorem dX11_undo_16 : decode cX11_undo 16 = .ok (.isub, 1) := by decide +kernel
theorem dX11_undo_17 : decode cX11_undo 17 = .ok (.putfield 197, 3) := by decide +kernel
theorem dX11_undo_20 : decode cX11_undo 20 = .ok (.iconst 0, 1) := by decide +kernel
theorem dX11_undo_21 : decode cX11_undo 21 = .ok (.istore_n 1, 1) := by decide +kernel
theorem dX11_undo_22 : decode cX11_undo 22 = .ok (.iload_n 1, 1) := by decide +kernel
theorem dX11_undo_23 : decode cX11_undo 23 = .ok (.bipush 53, 2) := by decide +kernel
theorem dX11_undo_25 : decode cX11_undo 25 = .ok (.if_icmp .ge 29, 3) := by decide +kernel
theorem dX11_undo_28 : decode cX11_undo 28 = .ok (.aload_n 0, 1) := by decide +kernel
theorem dX11_undo_29 : decode cX11_undo 29 = .ok (.getfield 31, 3) := by decide +kernel
theorem dX11_undo_32 : decode cX11_undo 32 = .ok (.iload_n 1, 1) := by decide +kernel
theorem dX11_undo_33 : decode cX11_undo 33 = .ok (.aload_n 0, 1) := by decide +kernel
theorem dX11_undo_34 : decode cX11_undo 34 = .ok (.getfield 71, 3) := by decide +kernel
theorem dX11_undo_37 : decode cX11_undo 37 = .ok (.bipush 53, 2) := by decide +kernel
theorem dX11_undo_39 : decode cX11_undo 39 = .ok (.aload_n 0, 1) := by decide +kernel
theorem dX11_undo_40 : decode cX11_undo 40 = .ok (.getfield 197, 3) := by decide +kernel
theorem dX11_undo_43 : decode cX11_undo 43 = .ok (.imul, 1) := by decide +kernel
theorem dX11_undo_44 : decode cX11_undo 44 = .ok (.iload_n 1, 1) := by decide +kernel
theorem dX11_undo_45 : decode cX11_undo 45 = .ok (.iadd, 1) := by decide +kernel
theorem dX11_undo_46 : decode cX11_undo 46 = .ok (.iaload, 1) := by decide +kernel
theorem dX11_undo_47 : decode cX11_undo 47 = .ok (.iastore, 1) := by decide +kernel
theorem dX11_undo_48 : decode cX11_undo 48 = .ok (.iinc 1 1, 3) := by decide +kernel
theorem dX11_undo_51 : decode cX11_undo 51 = .ok (.goto (-29), 3) := by decide +kernel
theorem dX11_undo_54 : decode cX11_undo 54 = .ok (.aload_n 0, 1) := by decide +kernel
theorem dX11_undo_55 : decode cX11_undo 55 = .ok (.getfield 197, 3) := by decide +kernel
theorem dX11_undo_58 : decode cX11_undo 58 = .ok (.ireturn, 1) := by decide +kernel
theorem dX11_game_0 : decode cX11_game 0 = .ok (.iload_n 1, 1) := by decide +kernel
theorem dX11_game_1 : decode cX11_game 1 = .ok (.i2l, 1) := by decide +kernel
theorem dX11_game_2 : decode cX11_game 2 = .ok (.lconst 1, 1) := by decide +kernel
theorem dX11_game_3 : decode cX11_game 3 = .ok (.ldc2_w 267, 3) := by decide +kernel
theorem dX11_game_6 : decode cX11_game 6 = .ok (.invokestatic 96, 3) := by decide +kernel
theorem dX11_game_9 : decode cX11_game 9 = .ok (.ifCond .eq 43, 3) := by decide +kernel
theorem dX11_game_12 : decode cX11_game 12 = .ok (.iload_n 2, 1) := by decide +kernel
theorem dX11_game_13 : decode cX11_game 13 = .ok (.i2l, 1) := by decide +kernel
theorem dX11_game_14 : decode cX11_game 14 = .ok (.lconst 0, 1) := by decide +kernel
theorem dX11_game_15 : decode cX11_game 15 = .ok (.iconst 1, 1) := by decide +kernel
theorem dX11_game_16 : decode cX11_game 16 = .ok (.iload_n 1, 1) := by decide +kernel
theorem dX11_game_17 : decode cX11_game 17 = .ok (.ishl, 1) := by decide +kernel
theorem dX11_game_18 : decode cX11_game 18 = .ok (.iconst 1, 1) := by decide +kernel
theorem dX11_game_19 : decode cX11_game 19 = .ok (.isub, 1) := by decide +kernel
theorem dX11_game_20 : decode cX11_game 20 = .ok (.i2l, 1) := by decide +kernel
theorem dX11_game_21 : decode cX11_game 21 = .ok (.invokestatic 96, 3) := by decide +kernel
theorem dX11_game_24 : decode cX11_game 24 = .ok (.ifCond .eq 28, 3) := by decide +kernel
theorem dX11_game_27 : decode cX11_game 27 = .ok (.iload_n 3, 1) := by decide +kernel
theorem dX11_game_28 : decode cX11_game 28 = .ok (.i2l, 1) := by decide +kernel
theorem dX11_game_29 : decode cX11_game 29 = .ok (.lconst 0, 1) := by decide +kernel
theorem dX11_game_30 : decode cX11_game 30 = .ok (.iload_n 1, 1) := by decide +kernel
theorem dX11_game_31 : decode cX11_game 31 = .ok (.i2l, 1) := by decide +kernel
theorem dX11_game_32 : decode cX11_game 32 = .ok (.invokestatic 96, 3) := by decide +kernel
theorem dX11_game_35 : decode cX11_game 35 = .ok (.ifCond .eq 17, 3) := by decide +kernel
theorem dX11_game_38 : decode cX11_game 38 = .ok (.iload_n 3, 1) := by decide +kernel
theorem dX11_game_39 : decode cX11_game 39 = .ok (.ifCond .le 16, 3) := by decide +kernel
theorem dX11_game_42 : decode cX11_game 42 = .ok (.iload_n 2, 1) := by decide +kernel
theorem dX11_game_43 : decode cX11_game 43 = .ok (.iload_n 3, 1) := by decide +kernel
theorem dX11_game_44 : decode cX11_game 44 = .ok (.iconst 1, 1) := by decide +kernel
theorem dX11_game_45 : decode cX11_game 45 = .ok (.isub, 1) := by decide +kernel
theorem dX11_game_46 : decode cX11_game 46 = .ok (.invokestatic 151, 3) := by decide +kernel
theorem dX11_game_49 : decode cX11_game 49 = .ok (.ifCond .eq 6, 3) := by decide +kernel
theorem dX11_game_52 : decode cX11_game 52 = .ok (.ldc 106, 2) := by decide +kernel
theorem dX11_game_54 : decode cX11_game 54 = .ok (.ireturn, 1) := by decide +kernel
theorem dX11_game_55 : decode cX11_game 55 = .ok (.iconst 0, 1) := by decide +kernel
theorem dX11_game_56 : decode cX11_game 56 = .ok (.istore 4, 2) := by decide +kernel
theorem dX11_game_58 : decode cX11_game 58 = .ok (.iload 4, 2) := by decide +kernel
theorem dX11_game_60 : decode cX11_game 60 = .ok (.iload_n 2, 1) := by decide +kernel
theorem dX11_game_61 : decode cX11_game 61 = .ok (.if_icmp .gt 167, 3) := by decide +kernel
theorem dX11_game_64 : decode cX11_game 64 = .ok (.iconst 0, 1) := by decide +kernel
theorem dX11_game_65 : decode cX11_game 65 = .ok (.istore 5, 2) := by decide +kernel
theorem dX11_game_67 : decode cX11_game 67 = .ok (.iload 5, 2) := by decide +kernel
theorem dX11_game_69 : decode cX11_game 69 = .ok (.iload_n 1, 1) := by decide +kernel
theorem dX11_game_70 : decode cX11_game 70 = .ok (.if_icmp .gt 152, 3) := by decide +kernel
theorem dX11_game_73 : decode cX11_game 73 = .ok (.sipush (-1000), 3) := by decide +kernel
theorem dX11_game_76 : decode cX11_game 76 = .ok (.istore 6, 2) := by decide +kernel
theorem dX11_game_78 : decode cX11_game 78 = .ok (.iconst 1, 1) := by decide +kernel
theorem dX11_game_79 : decode cX11_game 79 = .ok (.istore 7, 2) := by decide +kernel
theorem dX11_game_81 : decode cX11_game 81 = .ok (.iload 7, 2) := by decide +kernel
theorem dX11_game_83 : decode cX11_game 83 = .ok (.iload_n 1, 1) := by decide +kernel
theorem dX11_game_84 : decode cX11_game 84 = .ok (.if_icmp .gt 95, 3) := by decide +kernel
theorem dX11_game_87 : decode cX11_game 87 = .ok (.iload 4, 2) := by decide +kernel
theorem dX11_game_89 : decode cX11_game 89 = .ok (.iload 7, 2) := by decide +kernel
theorem dX11_game_91 : decode cX11_game 91 = .ok (.iconst 1, 1) := by decide +kernel
theorem dX11_game_92 : decode cX11_game 92 = .ok (.isub, 1) := by decide +kernel
theorem dX11_game_93 : decode cX11_game 93 = .ok (.invokestatic 151, 3) := by decide +kernel
theorem dX11_game_96 : decode cX11_game 96 = .ok (.ifCond .eq 21, 3) := by decide +kernel
theorem dX11_game_99 : decode cX11_game 99 = .ok (.iload 5, 2) := by decide +kernel
theorem dX11_game_101 : decode cX11_game 101 = .ok (.ifCond .eq 12, 3) := by decide +kernel
theorem dX11_game_104 : decode cX11_game 104 = .ok (.iload 7, 2) := by decide +kernel
theorem dX11_game_106 : decode cX11_game 106 = .ok (.iload 5, 2) := by decide +kernel
theorem dX11_game_108 : decode cX11_game 108 = .ok (.iconst 1, 1) := by decide +kernel
theorem dX11_game_109 : decode cX11_game 109 = .ok (.iadd, 1) := by decide +kernel
theorem dX11_game_110 : decode cX11_game 110 = .ok (.if_icmp .eq 7, 3) := by decide +kernel
theorem dX11_game_113 : decode cX11_game 113 = .ok (.iconst 1, 1) := by decide +kernel
theorem dX11_game_114 : decode cX11_game 114 = .ok (.goto 4, 3) := by decide +kernel
theorem dX11_game_117 : decode cX11_game 117 = .ok (.iconst 0, 1) := by decide +kernel
theorem dX11_game_118 : decode cX11_game 118 = .ok (.istore 8, 2) := by decide +kernel
theorem dX11_game_120 : decode cX11_game 120 = .ok (.iload 8, 2) := by decide +kernel
theorem dX11_game_122 : decode cX11_game 122 = .ok (.ifCond .eq 31, 3) := by decide +kernel
theorem dX11_game_125 : decode cX11_game 125 = .ok (.iload 7, 2) := by decide +kernel
theorem dX11_game_127 : decode cX11_game 127 = .ok (.aload_n 0, 1) := by decide +kernel
theorem dX11_game_128 : decode cX11_game 128 = .ok (.getfield 74, 3) := by decide +kernel
theorem dX11_game_131 : decode cX11_game 131 = .ok (.bipush 11, 2) := by decide +kernel
theorem dX11_game_133 : decode cX11_game 133 = .ok (.iload 4, 2) := by decide +kernel
theorem dX11_game_135 : decode cX11_game 135 = .ok (.iconst 1, 1) := by decide +kernel
theorem dX11_game_136 : decode cX11_game 136 = .ok (.iload 7, 2) := by decide +kernel
theorem dX11_game_138 : decode cX11_game 138 = .ok (.iconst 1, 1) := by decide +kernel
theorem dX11_game_139 : decode cX11_game 139 = .ok (.isub, 1) := by decide +kernel
theorem dX11_game_140 : decode cX11_game 140 = .ok (.ishl, 1) := by decide +kernel
theorem dX11_game_141 : decode cX11_game 141 = .ok (.iconst (-1), 1) := by decide +kernel
theorem dX11_game_142 : decode cX11_game 142 = .ok (.ixor, 1) := by decide +kernel
theorem dX11_game_143 : decode cX11_game 143 = .ok (.iand, 1) := by decide +kernel
theorem dX11_game_144 : decode cX11_game 144 = .ok (.imul, 1) := by decide +kernel
theorem dX11_game_145 : decode cX11_game 145 = .ok (.iload 7, 2) := by decide +kernel
theorem dX11_game_147 : decode cX11_game 147 = .ok (.iadd, 1) := by decide +kernel
theorem dX11_game_148 : decode cX11_game 148 = .ok (.iaload, 1) := by decide +kernel
theorem dX11_game_149 : decode cX11_game 149 = .ok (.isub, 1) := by decide +kernel
theorem dX11_game_150 : decode cX11_game 150 = .ok (.goto 5, 3) := by decide +kernel
theorem dX11_game_153 : decode cX11_game 153 = .ok (.iload 6, 2) := by decide +kernel
theorem dX11_game_155 : decode cX11_game 155 = .ok (.istore 9, 2) := by decide +kernel
theorem dX11_game_157 : decode cX11_game 157 = .ok (.iload 9, 2) := by decide +kernel
theorem dX11_game_159 : decode cX11_game 159 = .ok (.iload 6, 2) := by decide +kernel
theorem dX11_game_161 : decode cX11_game 161 = .ok (.if_icmp .le 8, 3) := by decide +kernel
theorem dX11_game_164 : decode cX11_game 164 = .ok (.iload 9, 2) := by decide +kernel
