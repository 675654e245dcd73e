theorem dX0_init_0 : decode cX0_init 0 = .ok (.aload_n 0, 1) := by decide +kernel
theorem dX0_init_1 : decode cX0_init 1 = .ok (.invokespecial 1, 3) := by decide +kernel
theorem dX0_init_4 : decode cX0_init 4 = .ok (.return_, 1) := by decide +kernel
theorem dX0_next_0 : decode cX0_next 0 = .ok (.aload_n 0, 1) := by decide +kernel
theorem dX0_next_1 : decode cX0_next 1 = .ok (.aload_n 0, 1) := by decide +kernel
theorem dX0_next_2 : decode cX0_next 2 = .ok (.getfield 7, 3) := by decide +kernel
theorem dX0_next_5 : decode cX0_next 5 = .ok (.i2l, 1) := by decide +kernel
theorem dX0_next_6 : decode cX0_next 6 = .ok (.ldc2_w 13, 3) := by decide +kernel
theorem dX0_next_9 : decode cX0_next 9 = .ok (.lmul, 1) := by decide +kernel
theorem dX0_next_10 : decode cX0_next 10 = .ok (.ldc2_w 15, 3) := by decide +kernel
theorem dX0_next_13 : decode cX0_next 13 = .ok (.ladd, 1) := by decide +kernel
theorem dX0_next_14 : decode cX0_next 14 = .ok (.ldc2_w 17, 3) := by decide +kernel
theorem dX0_next_17 : decode cX0_next 17 = .ok (.land, 1) := by decide +kernel
theorem dX0_next_18 : decode cX0_next 18 = .ok (.l2i, 1) := by decide +kernel
theorem dX0_next_19 : decode cX0_next 19 = .ok (.putfield 7, 3) := by decide +kernel
theorem dX0_next_22 : decode cX0_next 22 = .ok (.iload_n 1, 1) := by decide +kernel
theorem dX0_next_23 : decode cX0_next 23 = .ok (.ifCond .gt 7, 3) := by decide +kernel
theorem dX0_next_26 : decode cX0_next 26 = .ok (.iconst 0, 1) := by decide +kernel
theorem dX0_next_27 : decode cX0_next 27 = .ok (.goto 12, 3) := by decide +kernel
theorem dX0_next_30 : decode cX0_next 30 = .ok (.aload_n 0, 1) := by decide +kernel
theorem dX0_next_31 : decode cX0_next 31 = .ok (.getfield 7, 3) := by decide +kernel
theorem dX0_next_34 : decode cX0_next 34 = .ok (.ldc 19, 2) := by decide +kernel
theorem dX0_next_36 : decode cX0_next 36 = .ok (.idiv, 1) := by decide +kernel
theorem dX0_next_37 : decode cX0_next 37 = .ok (.iload_n 1, 1) := by decide +kernel
theorem dX0_next_38 : decode cX0_next 38 = .ok (.irem, 1) := by decide +kernel
theorem dX0_next_39 : decode cX0_next 39 = .ok (.ireturn, 1) := by decide +kernel
theorem dX1_init_0 : decode cX1_init 0 = .ok (.aload_n 0, 1) := by decide +kernel
theorem dX1_init_1 : decode cX1_init 1 = .ok (.invokespecial 1, 3) := by decide +kernel
theorem dX1_init_4 : decode cX1_init 4 = .ok (.aload_n 0, 1) := by decide +kernel
theorem dX1_init_5 : decode cX1_init 5 = .ok (.new 7, 3) := by decide +kernel
theorem dX1_init_8 : decode cX1_init 8 = .ok (.dup, 1) := by decide +kernel
theorem dX1_init_9 : decode cX1_init 9 = .ok (.invokespecial 9, 3) := by decide +kernel
theorem dX1_init_12 : decode cX1_init 12 = .ok (.putfield 10, 3) := by decide +kernel
theorem dX1_init_15 : decode cX1_init 15 = .ok (.aload_n 0, 1) := by decide +kernel
theorem dX1_init_16 : decode cX1_init 16 = .ok (.new 16, 3) := by decide +kernel
theorem dX1_init_19 : decode cX1_init 19 = .ok (.dup, 1) := by decide +kernel
theorem dX1_init_20 : decode cX1_init 20 = .ok (.invokespecial 18, 3) := by decide +kernel
theorem dX1_init_23 : decode cX1_init 23 = .ok (.putfield 19, 3) := by decide +kernel
theorem dX1_init_26 : decode cX1_init 26 = .ok (.return_, 1) := by decide +kernel
theorem dX1_clear_0 : decode cX1_clear 0 = .ok (.aload_n 0, 1) := by decide +kernel
theorem dX1_clear_1 : decode cX1_clear 1 = .ok (.getfield 10, 3) := by decide +kernel
theorem dX1_clear_4 : decode cX1_clear 4 = .ok (.invokevirtual 23, 3) := by decide +kernel
theorem dX1_clear_7 : decode cX1_clear 7 = .ok (.aload_n 0, 1) := by decide +kernel
theorem dX1_clear_8 : decode cX1_clear 8 = .ok (.getfield 19, 3) := by decide +kernel
theorem dX1_clear_11 : decode cX1_clear 11 = .ok (.iconst 0, 1) := by decide +kernel
theorem dX1_clear_12 : decode cX1_clear 12 = .ok (.putfield 26, 3) := by decide +kernel
theorem dX1_clear_15 : decode cX1_clear 15 = .ok (.return_, 1) := by decide +kernel
theorem dX1_wayOf_0 : decode cX1_wayOf 0 = .ok (.iload 4, 2) := by decide +kernel
theorem dX1_wayOf_2 : decode cX1_wayOf 2 = .ok (.iload_n 2, 1) := by decide +kernel
theorem dX1_wayOf_3 : decode cX1_wayOf 3 = .ok (.if_icmp .le 24, 3) := by decide +kernel
theorem dX1_wayOf_6 : decode cX1_wayOf 6 = .ok (.aload_n 0, 1) := by decide +kernel
theorem dX1_wayOf_7 : decode cX1_wayOf 7 = .ok (.getfield 10, 3) := by decide +kernel
theorem dX1_wayOf_10 : decode cX1_wayOf 10 = .ok (.iload 4, 2) := by decide +kernel
theorem dX1_wayOf_12 : decode cX1_wayOf 12 = .ok (.iload_n 2, 1) := by decide +kernel
theorem dX1_wayOf_13 : decode cX1_wayOf 13 = .ok (.isub, 1) := by decide +kernel
theorem dX1_wayOf_14 : decode cX1_wayOf 14 = .ok (.aload_n 0, 1) := by decide +kernel
theorem dX1_wayOf_15 : decode cX1_wayOf 15 = .ok (.getfield 19, 3) := by decide +kernel
theorem dX1_wayOf_18 : decode cX1_wayOf 18 = .ok (.getfield 30, 3) := by decide +kernel
theorem dX1_wayOf_21 : decode cX1_wayOf 21 = .ok (.iload_n 3, 1) := by decide +kernel
theorem dX1_wayOf_22 : decode cX1_wayOf 22 = .ok (.iaload, 1) := by decide +kernel
theorem dX1_wayOf_23 : decode cX1_wayOf 23 = .ok (.invokevirtual 34, 3) := by decide +kernel
theorem dX1_wayOf_26 : decode cX1_wayOf 26 = .ok (.ireturn, 1) := by decide +kernel
theorem dX1_wayOf_27 : decode cX1_wayOf 27 = .ok (.aload_n 0, 1) := by decide +kernel
theorem dX1_wayOf_28 : decode cX1_wayOf 28 = .ok (.getfield 10, 3) := by decide +kernel
theorem dX1_wayOf_31 : decode cX1_wayOf 31 = .ok (.iload_n 2, 1) := by decide +kernel
theorem dX1_wayOf_32 : decode cX1_wayOf 32 = .ok (.iload 4, 2) := by decide +kernel
theorem dX1_wayOf_34 : decode cX1_wayOf 34 = .ok (.isub, 1) := by decide +kernel
theorem dX1_wayOf_35 : decode cX1_wayOf 35 = .ok (.aload_n 0, 1) := by decide +kernel
theorem dX1_wayOf_36 : decode cX1_wayOf 36 = .ok (.getfield 19, 3) := by decide +kernel
theorem dX1_wayOf_39 : decode cX1_wayOf 39 = .ok (.getfield 30, 3) := by decide +kernel
theorem dX1_wayOf_42 : decode cX1_wayOf 42 = .ok (.iload_n 1, 1) := by decide +kernel
theorem dX1_wayOf_43 : decode cX1_wayOf 43 = .ok (.iaload, 1) := by decide +kernel
theorem dX1_wayOf_44 : decode cX1_wayOf 44 = .ok (.invokevirtual 34, 3) := by decide +kernel
theorem dX1_wayOf_47 : decode cX1_wayOf 47 = .ok (.ineg, 1) := by decide +kernel
theorem dX1_wayOf_48 : decode cX1_wayOf 48 = .ok (.ireturn, 1) := by decide +kernel
theorem dX1_couldMove_0 : decode cX1_couldMove 0 = .ok (.iload_n 3, 1) := by decide +kernel
theorem dX1_couldMove_1 : decode cX1_couldMove 1 = .ok (.ifCond .ne 5, 3) := by decide +kernel
theorem dX1_couldMove_4 : decode cX1_couldMove 4 = .ok (.iconst 1, 1) := by decide +kernel
theorem dX1_couldMove_5 : decode cX1_couldMove 5 = .ok (.ireturn, 1) := by decide +kernel
theorem dX1_couldMove_6 : decode cX1_couldMove 6 = .ok (.iload_n 3, 1) := by decide +kernel
theorem dX1_couldMove_7 : decode cX1_couldMove 7 = .ok (.ifCond .le 7, 3) := by decide +kernel
theorem dX1_couldMove_10 : decode cX1_couldMove 10 = .ok (.iload_n 2, 1) := by decide +kernel
theorem dX1_couldMove_11 : decode cX1_couldMove 11 = .ok (.goto 4, 3) := by decide +kernel
theorem dX1_couldMove_14 : decode cX1_couldMove 14 = .ok (.iload_n 1, 1) := by decide +kernel
theorem dX1_couldMove_15 : decode cX1_couldMove 15 = .ok (.istore 4, 2) := by decide +kernel
theorem dX1_couldMove_17 : decode cX1_couldMove 17 = .ok (.iload_n 3, 1) := by decide +kernel
theorem dX1_couldMove_18 : decode cX1_couldMove 18 = .ok (.ifCond .le 7, 3) := by decide +kernel
theorem dX1_couldMove_21 : decode cX1_couldMove 21 = .ok (.iload_n 1, 1) := by decide +kernel
theorem dX1_couldMove_22 : decode cX1_couldMove 22 = .ok (.goto 4, 3) := by decide +kernel
theorem dX1_couldMove_25 : decode cX1_couldMove 25 = .ok (.iload_n 2, 1) := by decide +kernel
theorem dX1_couldMove_26 : decode cX1_couldMove 26 = .ok (.istore 5, 2) := by decide +kernel
theorem dX1_couldMove_28 : decode cX1_couldMove 28 = .ok (.aload_n 0, 1) := by decide +kernel
theorem dX1_couldMove_29 : decode cX1_couldMove 29 = .ok (.getfield 10, 3) := by decide +kernel
theorem dX1_couldMove_32 : decode cX1_couldMove 32 = .ok (.aload_n 0, 1) := by decide +kernel
theorem dX1_couldMove_33 : decode cX1_couldMove 33 = .ok (.getfield 19, 3) := by decide +kernel
theorem dX1_couldMove_36 : decode cX1_couldMove 36 = .ok (.getfield 38, 3) := by decide +kernel
theorem dX1_couldMove_39 : decode cX1_couldMove 39 = .ok (.iload 4, 2) := by decide +kernel
theorem dX1_couldMove_41 : decode cX1_couldMove 41 = .ok (.iaload, 1) := by decide +kernel
theorem dX1_couldMove_42 : decode cX1_couldMove 42 = .ok (.invokevirtual 41, 3) := by decide +kernel
theorem dX1_couldMove_45 : decode cX1_couldMove 45 = .ok (.lstore 6, 2) := by decide +kernel
theorem dX1_couldMove_47 : decode cX1_couldMove 47 = .ok (.aload_n 0, 1) := by decide +kernel
theorem dX1_couldMove_48 : decode cX1_couldMove 48 = .ok (.getfield 10, 3) := by decide +kernel
theorem dX1_couldMove_51 : decode cX1_couldMove 51 = .ok (.aload_n 0, 1) := by decide +kernel
theorem dX1_couldMove_52 : decode cX1_couldMove 52 = .ok (.getfield 19, 3) := by decide +kernel
theorem dX1_couldMove_55 : decode cX1_couldMove 55 = .ok (.getfield 38, 3) := by decide +kernel
theorem dX1_couldMove_58 : decode cX1_couldMove 58 = .ok (.iload 5, 2) := by decide +kernel
theorem dX1_couldMove_60 : decode cX1_couldMove 60 = .ok (.iaload, 1) := by decide +kernel
theorem dX1_couldMove_61 : decode cX1_couldMove 61 = .ok (.invokevirtual 41, 3) := by decide +kernel
theorem dX1_couldMove_64 : decode cX1_couldMove 64 = .ok (.lstore 8, 2) := by decide +kernel
theorem dX1_couldMove_66 : decode cX1_couldMove 66 = .ok (.iconst 1, 1) := by decide +kernel
theorem dX1_couldMove_67 : decode cX1_couldMove 67 = .ok (.istore 10, 2) := by decide +kernel
theorem dX1_couldMove_69 : decode cX1_couldMove 69 = .ok (.iload 10, 2) := by decide +kernel
theorem dX1_couldMove_71 : decode cX1_couldMove 71 = .ok (.bipush 41, 2) := by decide +kernel
theorem dX1_couldMove_73 : decode cX1_couldMove 73 = .ok (.if_icmp .gt 62, 3) := by decide +kernel
theorem dX1_couldMove_76 : decode cX1_couldMove 76 = .ok (.aload_n 0, 1) := by decide +kernel
theorem dX1_couldMove_77 : decode cX1_couldMove 77 = .ok (.getfield 10, 3) := by decide +kernel
theorem dX1_couldMove_80 : decode cX1_couldMove 80 = .ok (.iload 10, 2) := by decide +kernel
theorem dX1_couldMove_82 : decode cX1_couldMove 82 = .ok (.aload_n 0, 1) := by decide +kernel
theorem dX1_couldMove_83 : decode cX1_couldMove 83 = .ok (.getfield 19, 3) := by decide +kernel
theorem dX1_couldMove_86 : decode cX1_couldMove 86 = .ok (.getfield 30, 3) := by decide +kernel
theorem dX1_couldMove_89 : decode cX1_couldMove 89 = .ok (.iload 4, 2) := by decide +kernel
theorem dX1_couldMove_91 : decode cX1_couldMove 91 = .ok (.iaload, 1) := by decide +kernel
theorem dX1_couldMove_92 : decode cX1_couldMove 92 = .ok (.invokevirtual 34, 3) := by decide +kernel
theorem dX1_couldMove_95 : decode cX1_couldMove 95 = .ok (.iload_n 3, 1) := by decide +kernel
theorem dX1_couldMove_96 : decode cX1_couldMove 96 = .ok (.invokestatic 45, 3) := by decide +kernel
theorem dX1_couldMove_99 : decode cX1_couldMove 99 = .ok (.if_icmp .ne 7, 3) := by decide +kernel
theorem dX1_couldMove_102 : decode cX1_couldMove 102 = .ok (.iconst 1, 1) := by decide +kernel
theorem dX1_couldMove_103 : decode cX1_couldMove 103 = .ok (.goto 4, 3) := by decide +kernel
theorem dX1_couldMove_106 : decode cX1_couldMove 106 = .ok (.iconst 0, 1) := by decide +kernel
theorem dX1_couldMove_107 : decode cX1_couldMove 107 = .ok (.istore 11, 2) := by decide +kernel
theorem dX1_couldMove_109 : decode cX1_couldMove 109 = .ok (.iload 11, 2) := by decide +kernel
theorem dX1_couldMove_111 : decode cX1_couldMove 111 = .ok (.ifCond .eq 18, 3) := by decide +kernel
theorem dX1_couldMove_114 : decode cX1_couldMove 114 = .ok (.lload 6, 2) := by decide +kernel
theorem dX1_couldMove_116 : decode cX1_couldMove 116 = .ok (.iload 10, 2) := by decide +kernel
theorem dX1_couldMove_118 : decode cX1_couldMove 118 = .ok (.lushr, 1) := by decide +kernel
theorem dX1_couldMove_119 : decode cX1_couldMove 119 = .ok (.lload 8, 2) := by decide +kernel
theorem dX1_couldMove_121 : decode cX1_couldMove 121 = .ok (.land, 1) := by decide +kernel
theorem dX1_couldMove_122 : decode cX1_couldMove 122 = .ok (.lconst 0, 1) := by decide +kernel
theorem dX1_couldMove_123 : decode cX1_couldMove 123 = .ok (.lcmp, 1) := by decide +kernel
theorem dX1_couldMove_124 : decode cX1_couldMove 124 = .ok (.ifCond .eq 5, 3) := by decide +kernel
theorem dX1_couldMove_127 : decode cX1_couldMove 127 = .ok (.iconst 1, 1) := by decide +kernel
theorem dX1_couldMove_128 : decode cX1_couldMove 128 = .ok (.ireturn, 1) := by decide +kernel
theorem dX1_couldMove_129 : decode cX1_couldMove 129 = .ok (.iinc 10 1, 3) := by decide +kernel
theorem dX1_couldMove_132 : decode cX1_couldMove 132 = .ok (.goto (-63), 3) := by decide +kernel
theorem dX1_couldMove_135 : decode cX1_couldMove 135 = .ok (.iconst 0, 1) := by decide +kernel
theorem dX1_couldMove_136 : decode cX1_couldMove 136 = .ok (.ireturn, 1) := by decide +kernel
theorem dX2_init_0 : decode cX2_init 0 = .ok (.aload_n 0, 1) := by decide +kernel
theorem dX2_init_1 : decode cX2_init 1 = .ok (.invokespecial 3, 3) := by decide +kernel
theorem dX2_init_4 : decode cX2_init 4 = .ok (.aload_n 0, 1) := by decide +kernel
theorem dX2_init_5 : decode cX2_init 5 = .ok (.sipush 1024, 3) := by decide +kernel
theorem dX2_init_8 : decode cX2_init 8 = .ok (.newarray .int, 2) := by decide +kernel
theorem dX2_init_10 : decode cX2_init 10 = .ok (.putfield 9, 3) := by decide +kernel
theorem dX2_init_13 : decode cX2_init 13 = .ok (.aload_n 0, 1) := by decide +kernel
theorem dX2_init_14 : decode cX2_init 14 = .ok (.sipush 1024, 3) := by decide +kernel
theorem dX2_init_17 : decode cX2_init 17 = .ok (.newarray .int, 2) := by decide +kernel
theorem dX2_init_19 : decode cX2_init 19 = .ok (.putfield 13, 3) := by decide +kernel
theorem dX2_init_22 : decode cX2_init 22 = .ok (.aload_n 0, 1) := by decide +kernel
theorem dX2_init_23 : decode cX2_init 23 = .ok (.sipush 1024, 3) := by decide +kernel
theorem dX2_init_26 : decode cX2_init 26 = .ok (.newarray .int, 2) := by decide +kernel
theorem dX2_init_28 : decode cX2_init 28 = .ok (.putfield 16, 3) := by decide +kernel
theorem dX2_init_31 : decode cX2_init 31 = .ok (.aload_n 0, 1) := by decide +kernel
theorem dX2_init_32 : decode cX2_init 32 = .ok (.iconst 1, 1) := by decide +kernel
theorem dX2_init_33 : decode cX2_init 33 = .ok (.putfield 19, 3) := by decide +kernel
theorem dX2_init_36 : decode cX2_init 36 = .ok (.return_, 1) := by decide +kernel
theorem dX2_fillTo_0 : decode cX2_fillTo 0 = .ok (.aload_n 0, 1) := by decide +kernel
theorem dX2_fillTo_1 : decode cX2_fillTo 1 = .ok (.getfield 19, 3) := by decide +kernel
theorem dX2_fillTo_4 : decode cX2_fillTo 4 = .ok (.istore_n 2, 1) := by decide +kernel
theorem dX2_fillTo_5 : decode cX2_fillTo 5 = .ok (.iload_n 2, 1) := by decide +kernel
theorem dX2_fillTo_6 : decode cX2_fillTo 6 = .ok (.iload_n 1, 1) := by decide +kernel
theorem dX2_fillTo_7 : decode cX2_fillTo 7 = .ok (.if_icmp .gt 28, 3) := by decide +kernel
theorem dX2_fillTo_10 : decode cX2_fillTo 10 = .ok (.iload_n 2, 1) := by decide +kernel
theorem dX2_fillTo_11 : decode cX2_fillTo 11 = .ok (.sipush 1024, 3) := by decide +kernel
theorem dX2_fillTo_14 : decode cX2_fillTo 14 = .ok (.if_icmp .ge 21, 3) := by decide +kernel
theorem dX2_fillTo_17 : decode cX2_fillTo 17 = .ok (.aload_n 0, 1) := by decide +kernel
theorem dX2_fillTo_18 : decode cX2_fillTo 18 = .ok (.iload_n 2, 1) := by decide +kernel
theorem dX2_fillTo_19 : decode cX2_fillTo 19 = .ok (.invokevirtual 23, 3) := by decide +kernel
theorem dX2_fillTo_22 : decode cX2_fillTo 22 = .ok (.aload_n 0, 1) := by decide +kernel
theorem dX2_fillTo_23 : decode cX2_fillTo 23 = .ok (.iload_n 2, 1) := by decide +kernel
theorem dX2_fillTo_24 : decode cX2_fillTo 24 = .ok (.iconst 1, 1) := by decide +kernel
theorem dX2_fillTo_25 : decode cX2_fillTo 25 = .ok (.iadd, 1) := by decide +kernel
theorem dX2_fillTo_26 : decode cX2_fillTo 26 = .ok (.putfield 19, 3) := by decide +kernel
theorem dX2_fillTo_29 : decode cX2_fillTo 29 = .ok (.iinc 2 1, 3) := by decide +kernel
theorem dX2_fillTo_32 : decode cX2_fillTo 32 = .ok (.goto (-27), 3) := by decide +kernel
theorem dX2_fillTo_35 : decode cX2_fillTo 35 = .ok (.return_, 1) := by decide +kernel
theorem dX2_fill_0 : decode cX2_fill 0 = .ok (.aload_n 0, 1) := by decide +kernel
theorem dX2_fill_1 : decode cX2_fill 1 = .ok (.getfield 9, 3) := by decide +kernel
theorem dX2_fill_4 : decode cX2_fill 4 = .ok (.iload_n 1, 1) := by decide +kernel
theorem dX2_fill_5 : decode cX2_fill 5 = .ok (.aload_n 0, 1) := by decide +kernel
theorem dX2_fill_6 : decode cX2_fill 6 = .ok (.iload_n 1, 1) := by decide +kernel
theorem dX2_fill_7 : decode cX2_fill 7 = .ok (.iconst 0, 1) := by decide +kernel
theorem dX2_fill_8 : decode cX2_fill 8 = .ok (.invokevirtual 27, 3) := by decide +kernel
theorem dX2_fill_11 : decode cX2_fill 11 = .ok (.iastore, 1) := by decide +kernel
theorem dX2_fill_12 : decode cX2_fill 12 = .ok (.aload_n 0, 1) := by decide +kernel
theorem dX2_fill_13 : decode cX2_fill 13 = .ok (.getfield 13, 3) := by decide +kernel
theorem dX2_fill_16 : decode cX2_fill 16 = .ok (.iload_n 1, 1) := by decide +kernel
theorem dX2_fill_17 : decode cX2_fill 17 = .ok (.aload_n 0, 1) := by decide +kernel
theorem dX2_fill_18 : decode cX2_fill 18 = .ok (.iload_n 1, 1) := by decide +kernel
theorem dX2_fill_19 : decode cX2_fill 19 = .ok (.aload_n 0, 1) := by decide +kernel
theorem dX2_fill_20 : decode cX2_fill 20 = .ok (.getfield 9, 3) := by decide +kernel
theorem dX2_fill_23 : decode cX2_fill 23 = .ok (.iload_n 1, 1) := by decide +kernel
theorem dX2_fill_24 : decode cX2_fill 24 = .ok (.iaload, 1) := by decide +kernel
theorem dX2_fill_25 : decode cX2_fill 25 = .ok (.invokevirtual 31, 3) := by decide +kernel
theorem dX2_fill_28 : decode cX2_fill 28 = .ok (.iastore, 1) := by decide +kernel
theorem dX2_fill_29 : decode cX2_fill 29 = .ok (.aload_n 0, 1) := by decide +kernel
theorem dX2_fill_30 : decode cX2_fill 30 = .ok (.getfield 16, 3) := by decide +kernel
theorem dX2_fill_33 : decode cX2_fill 33 = .ok (.iload_n 1, 1) := by decide +kernel
theorem dX2_fill_34 : decode cX2_fill 34 = .ok (.aload_n 0, 1) := by decide +kernel
theorem dX2_fill_35 : decode cX2_fill 35 = .ok (.iload_n 1, 1) := by decide +kernel
theorem dX2_fill_36 : decode cX2_fill 36 = .ok (.aload_n 0, 1) := by decide +kernel
theorem dX2_fill_37 : decode cX2_fill 37 = .ok (.iload_n 1, 1) := by decide +kernel
theorem dX2_fill_38 : decode cX2_fill 38 = .ok (.aload_n 0, 1) := by decide +kernel
theorem dX2_fill_39 : decode cX2_fill 39 = .ok (.getfield 9, 3) := by decide +kernel
theorem dX2_fill_42 : decode cX2_fill 42 = .ok (.iload_n 1, 1) := by decide +kernel
theorem dX2_fill_43 : decode cX2_fill 43 = .ok (.iaload, 1) := by decide +kernel
theorem dX2_fill_44 : decode cX2_fill 44 = .ok (.invokevirtual 27, 3) := by decide +kernel
theorem dX2_fill_47 : decode cX2_fill 47 = .ok (.invokevirtual 31, 3) := by decide +kernel
theorem dX2_fill_50 : decode cX2_fill 50 = .ok (.iastore, 1) := by decide +kernel
theorem dX2_fill_51 : decode cX2_fill 51 = .ok (.return_, 1) := by decide +kernel
theorem dX2_bestBut_0 : decode cX2_bestBut 0 = .ok (.iconst 0, 1) := by decide +kernel
theorem dX2_bestBut_1 : decode cX2_bestBut 1 = .ok (.istore_n 3, 1) := by decide +kernel
theorem dX2_bestBut_2 : decode cX2_bestBut 2 = .ok (.iconst 0, 1) := by decide +kernel
theorem dX2_bestBut_3 : decode cX2_bestBut 3 = .ok (.istore 4, 2) := by decide +kernel
theorem dX2_bestBut_5 : decode cX2_bestBut 5 = .ok (.iconst 1, 1) := by decide +kernel
theorem dX2_bestBut_6 : decode cX2_bestBut 6 = .ok (.istore 5, 2) := by decide +kernel
theorem dX2_bestBut_8 : decode cX2_bestBut 8 = .ok (.iload 5, 2) := by decide +kernel
theorem dX2_bestBut_10 : decode cX2_bestBut 10 = .ok (.bipush 10, 2) := by decide +kernel
theorem dX2_bestBut_12 : decode cX2_bestBut 12 = .ok (.if_icmp .gt 54, 3) := by decide +kernel
theorem dX2_bestBut_15 : decode cX2_bestBut 15 = .ok (.iload_n 1, 1) := by decide +kernel
theorem dX2_bestBut_16 : decode cX2_bestBut 16 = .ok (.iload 5, 2) := by decide +kernel
theorem dX2_bestBut_18 : decode cX2_bestBut 18 = .ok (.iconst 1, 1) := by decide +kernel
theorem dX2_bestBut_19 : decode cX2_bestBut 19 = .ok (.isub, 1) := by decide +kernel
theorem dX2_bestBut_20 : decode cX2_bestBut 20 = .ok (.ishr, 1) := by decide +kernel
theorem dX2_bestBut_21 : decode cX2_bestBut 21 = .ok (.iconst 1, 1) := by decide +kernel
theorem dX2_bestBut_22 : decode cX2_bestBut 22 = .ok (.iand, 1) := by decide +kernel
theorem dX2_bestBut_23 : decode cX2_bestBut 23 = .ok (.iconst 1, 1) := by decide +kernel
theorem dX2_bestBut_24 : decode cX2_bestBut 24 = .ok (.if_icmp .ne 36, 3) := by decide +kernel
theorem dX2_bestBut_27 : decode cX2_bestBut 27 = .ok (.iload 5, 2) := by decide +kernel
theorem dX2_bestBut_29 : decode cX2_bestBut 29 = .ok (.iload_n 2, 1) := by decide +kernel
theorem dX2_bestBut_30 : decode cX2_bestBut 30 = .ok (.if_icmp .eq 30, 3) := by decide +kernel
theorem dX2_bestBut_33 : decode cX2_bestBut 33 = .ok (.aload_n 0, 1) := by decide +kernel
theorem dX2_bestBut_34 : decode cX2_bestBut 34 = .ok (.iload_n 1, 1) := by decide +kernel
theorem dX2_bestBut_35 : decode cX2_bestBut 35 = .ok (.iload 5, 2) := by decide +kernel
theorem dX2_bestBut_37 : decode cX2_bestBut 37 = .ok (.invokevirtual 31, 3) := by decide +kernel
theorem dX2_bestBut_40 : decode cX2_bestBut 40 = .ok (.istore 6, 2) := by decide +kernel
theorem dX2_bestBut_42 : decode cX2_bestBut 42 = .ok (.iload_n 3, 1) := by decide +kernel
theorem dX2_bestBut_43 : decode cX2_bestBut 43 = .ok (.ifCond .eq 10, 3) := by decide +kernel
theorem dX2_bestBut_46 : decode cX2_bestBut 46 = .ok (.iload 6, 2) := by decide +kernel
theorem dX2_bestBut_48 : decode cX2_bestBut 48 = .ok (.iload 4, 2) := by decide +kernel
theorem dX2_bestBut_50 : decode cX2_bestBut 50 = .ok (.if_icmp .le 10, 3) := by decide +kernel
theorem dX2_bestBut_53 : decode cX2_bestBut 53 = .ok (.iload 5, 2) := by decide +kernel
theorem dX2_bestBut_55 : decode cX2_bestBut 55 = .ok (.istore_n 3, 1) := by decide +kernel
theorem dX2_bestBut_56 : decode cX2_bestBut 56 = .ok (.iload 6, 2) := by decide +kernel
theorem dX2_bestBut_58 : decode cX2_bestBut 58 = .ok (.istore 4, 2) := by decide +kernel
theorem dX2_bestBut_60 : decode cX2_bestBut 60 = .ok (.iinc 5 1, 3) := by decide +kernel
theorem dX2_bestBut_63 : decode cX2_bestBut 63 = .ok (.goto (-55), 3) := by decide +kernel
theorem dX2_bestBut_66 : decode cX2_bestBut 66 = .ok (.iload_n 3, 1) := by decide +kernel
theorem dX2_bestBut_67 : decode cX2_bestBut 67 = .ok (.ireturn, 1) := by decide +kernel
theorem dX2_gainBy_0 : decode cX2_gainBy 0 = .ok (.iload_n 2, 1) := by decide +kernel
theorem dX2_gainBy_1 : decode cX2_gainBy 1 = .ok (.ifCond .ne 8, 3) := by decide +kernel
theorem dX2_gainBy_4 : decode cX2_gainBy 4 = .ok (.bipush (-5), 2) := by decide +kernel
theorem dX2_gainBy_6 : decode cX2_gainBy 6 = .ok (.goto 17, 3) := by decide +kernel
theorem dX2_gainBy_9 : decode cX2_gainBy 9 = .ok (.iload_n 2, 1) := by decide +kernel
theorem dX2_gainBy_10 : decode cX2_gainBy 10 = .ok (.aload_n 0, 1) := by decide +kernel
theorem dX2_gainBy_11 : decode cX2_gainBy 11 = .ok (.iload_n 1, 1) := by decide +kernel
theorem dX2_gainBy_12 : decode cX2_gainBy 12 = .ok (.iconst 1, 1) := by decide +kernel
theorem dX2_gainBy_13 : decode cX2_gainBy 13 = .ok (.iload_n 2, 1) := by decide +kernel
theorem dX2_gainBy_14 : decode cX2_gainBy 14 = .ok (.iconst 1, 1) := by decide +kernel
theorem dX2_gainBy_15 : decode cX2_gainBy 15 = .ok (.isub, 1) := by decide +kernel
theorem dX2_gainBy_16 : decode cX2_gainBy 16 = .ok (.ishl, 1) := by decide +kernel
theorem dX2_gainBy_17 : decode cX2_gainBy 17 = .ok (.ixor, 1) := by decide +kernel
theorem dX2_gainBy_18 : decode cX2_gainBy 18 = .ok (.iload_n 2, 1) := by decide +kernel
theorem dX2_gainBy_19 : decode cX2_gainBy 19 = .ok (.invokevirtual 34, 3) := by decide +kernel
theorem dX2_gainBy_22 : decode cX2_gainBy 22 = .ok (.isub, 1) := by decide +kernel
theorem dX2_gainBy_23 : decode cX2_gainBy 23 = .ok (.ireturn, 1) := by decide +kernel
theorem dX2_worth_0 : decode cX2_worth 0 = .ok (.iload_n 2, 1) := by decide +kernel
theorem dX2_worth_1 : decode cX2_worth 1 = .ok (.ifCond .le 19, 3) := by decide +kernel
theorem dX2_worth_4 : decode cX2_worth 4 = .ok (.aload_n 0, 1) := by decide +kernel
theorem dX2_worth_5 : decode cX2_worth 5 = .ok (.getfield 9, 3) := by decide +kernel
theorem dX2_worth_8 : decode cX2_worth 8 = .ok (.iload_n 1, 1) := by decide +kernel
theorem dX2_worth_9 : decode cX2_worth 9 = .ok (.iaload, 1) := by decide +kernel
theorem dX2_worth_10 : decode cX2_worth 10 = .ok (.iload_n 2, 1) := by decide +kernel
theorem dX2_worth_11 : decode cX2_worth 11 = .ok (.iconst 1, 1) := by decide +kernel
theorem dX2_worth_12 : decode cX2_worth 12 = .ok (.iadd, 1) := by decide +kernel
theorem dX2_worth_13 : decode cX2_worth 13 = .ok (.if_icmp .ne 7, 3) := by decide +kernel
theorem dX2_worth_16 : decode cX2_worth 16 = .ok (.iconst 1, 1) := by decide +kernel
theorem dX2_worth_17 : decode cX2_worth 17 = .ok (.goto 4, 3) := by decide +kernel
theorem dX2_worth_20 : decode cX2_worth 20 = .ok (.iconst 0, 1) := by decide +kernel
theorem dX2_worth_21 : decode cX2_worth 21 = .ok (.istore_n 3, 1) := by decide +kernel
theorem dX2_worth_22 : decode cX2_worth 22 = .ok (.iload_n 3, 1) := by decide +kernel
theorem dX2_worth_23 : decode cX2_worth 23 = .ok (.ifCond .eq 12, 3) := by decide +kernel
theorem dX2_worth_26 : decode cX2_worth 26 = .ok (.aload_n 0, 1) := by decide +kernel
theorem dX2_worth_27 : decode cX2_worth 27 = .ok (.getfield 16, 3) := by decide +kernel
theorem dX2_worth_30 : decode cX2_worth 30 = .ok (.iload_n 1, 1) := by decide +kernel
theorem dX2_worth_31 : decode cX2_worth 31 = .ok (.iaload, 1) := by decide +kernel
theorem dX2_worth_32 : decode cX2_worth 32 = .ok (.goto 9, 3) := by decide +kernel
theorem dX2_worth_35 : decode cX2_worth 35 = .ok (.aload_n 0, 1) := by decide +kernel
theorem dX2_worth_36 : decode cX2_worth 36 = .ok (.getfield 13, 3) := by decide +kernel
theorem dX2_worth_39 : decode cX2_worth 39 = .ok (.iload_n 1, 1) := by decide +kernel
theorem dX2_worth_40 : decode cX2_worth 40 = .ok (.iaload, 1) := by decide +kernel
theorem dX2_worth_41 : decode cX2_worth 41 = .ok (.ireturn, 1) := by decide +kernel
theorem dX3_init_0 : decode cX3_init 0 = .ok (.aload_n 0, 1) := by decide +kernel
theorem dX3_init_1 : decode cX3_init 1 = .ok (.invokespecial 3, 3) := by decide +kernel
theorem dX3_init_4 : decode cX3_init 4 = .ok (.aload_n 0, 1) := by decide +kernel
theorem dX3_init_5 : decode cX3_init 5 = .ok (.bipush 6, 2) := by decide +kernel
theorem dX3_init_7 : decode cX3_init 7 = .ok (.newarray .int, 2) := by decide +kernel
theorem dX3_init_9 : decode cX3_init 9 = .ok (.putfield 11, 3) := by decide +kernel
theorem dX3_init_12 : decode cX3_init 12 = .ok (.aload_n 0, 1) := by decide +kernel
theorem dX3_init_13 : decode cX3_init 13 = .ok (.iconst 4, 1) := by decide +kernel
theorem dX3_init_14 : decode cX3_init 14 = .ok (.newarray .int, 2) := by decide +kernel
theorem dX3_init_16 : decode cX3_init 16 = .ok (.putfield 15, 3) := by decide +kernel
theorem dX3_init_19 : decode cX3_init 19 = .ok (.aload_n 0, 1) := by decide +kernel
theorem dX3_init_20 : decode cX3_init 20 = .ok (.bipush 6, 2) := by decide +kernel
theorem dX3_init_22 : decode cX3_init 22 = .ok (.newarray .int, 2) := by decide +kernel
theorem dX3_init_24 : decode cX3_init 24 = .ok (.putfield 18, 3) := by decide +kernel
theorem dX3_init_27 : decode cX3_init 27 = .ok (.aload_n 0, 1) := by decide +kernel
theorem dX3_init_28 : decode cX3_init 28 = .ok (.bipush 42, 2) := by decide +kernel
theorem dX3_init_30 : decode cX3_init 30 = .ok (.newarray .int, 2) := by decide +kernel
theorem dX3_init_32 : decode cX3_init 32 = .ok (.putfield 21, 3) := by decide +kernel
theorem dX3_init_35 : decode cX3_init 35 = .ok (.aload_n 0, 1) := by decide +kernel
theorem dX3_init_36 : decode cX3_init 36 = .ok (.bipush 42, 2) := by decide +kernel
theorem dX3_init_38 : decode cX3_init 38 = .ok (.newarray .int, 2) := by decide +kernel
theorem dX3_init_40 : decode cX3_init 40 = .ok (.putfield 24, 3) := by decide +kernel
theorem dX3_init_43 : decode cX3_init 43 = .ok (.aload_n 0, 1) := by decide +kernel
theorem dX3_init_44 : decode cX3_init 44 = .ok (.bipush 42, 2) := by decide +kernel
theorem dX3_init_46 : decode cX3_init 46 = .ok (.newarray .int, 2) := by decide +kernel
theorem dX3_init_48 : decode cX3_init 48 = .ok (.putfield 27, 3) := by decide +kernel
theorem dX3_init_51 : decode cX3_init 51 = .ok (.return_, 1) := by decide +kernel
theorem dX3_clear_0 : decode cX3_clear 0 = .ok (.aload_n 0, 1) := by decide +kernel
theorem dX3_clear_1 : decode cX3_clear 1 = .ok (.iconst 0, 1) := by decide +kernel
theorem dX3_clear_2 : decode cX3_clear 2 = .ok (.putfield 30, 3) := by decide +kernel
theorem dX3_clear_5 : decode cX3_clear 5 = .ok (.aload_n 0, 1) := by decide +kernel
theorem dX3_clear_6 : decode cX3_clear 6 = .ok (.iconst 0, 1) := by decide +kernel
theorem dX3_clear_7 : decode cX3_clear 7 = .ok (.putfield 34, 3) := by decide +kernel
theorem dX3_clear_10 : decode cX3_clear 10 = .ok (.aload_n 0, 1) := by decide +kernel
theorem dX3_clear_11 : decode cX3_clear 11 = .ok (.iconst 0, 1) := by decide +kernel
theorem dX3_clear_12 : decode cX3_clear 12 = .ok (.putfield 37, 3) := by decide +kernel
theorem dX3_clear_15 : decode cX3_clear 15 = .ok (.aload_n 0, 1) := by decide +kernel
theorem dX3_clear_16 : decode cX3_clear 16 = .ok (.iconst 0, 1) := by decide +kernel
theorem dX3_clear_17 : decode cX3_clear 17 = .ok (.putfield 40, 3) := by decide +kernel
theorem dX3_clear_20 : decode cX3_clear 20 = .ok (.aload_n 0, 1) := by decide +kernel
theorem dX3_clear_21 : decode cX3_clear 21 = .ok (.iconst 0, 1) := by decide +kernel
theorem dX3_clear_22 : decode cX3_clear 22 = .ok (.putfield 43, 3) := by decide +kernel
theorem dX3_clear_25 : decode cX3_clear 25 = .ok (.aload_n 0, 1) := by decide +kernel
theorem dX3_clear_26 : decode cX3_clear 26 = .ok (.getfield 18, 3) := by decide +kernel
theorem dX3_clear_29 : decode cX3_clear 29 = .ok (.iconst 0, 1) := by decide +kernel
theorem dX3_clear_30 : decode cX3_clear 30 = .ok (.invokestatic 46, 3) := by decide +kernel
theorem dX3_clear_33 : decode cX3_clear 33 = .ok (.return_, 1) := by decide +kernel
theorem dX3_addStem_0 : decode cX3_addStem 0 = .ok (.aload_n 0, 1) := by decide +kernel
theorem dX3_addStem_1 : decode cX3_addStem 1 = .ok (.getfield 37, 3) := by decide +kernel
theorem dX3_addStem_4 : decode cX3_addStem 4 = .ok (.bipush 6, 2) := by decide +kernel
theorem dX3_addStem_6 : decode cX3_addStem 6 = .ok (.if_icmp .ge 23, 3) := by decide +kernel
theorem dX3_addStem_9 : decode cX3_addStem 9 = .ok (.aload_n 0, 1) := by decide +kernel
theorem dX3_addStem_10 : decode cX3_addStem 10 = .ok (.getfield 11, 3) := by decide +kernel
theorem dX3_addStem_13 : decode cX3_addStem 13 = .ok (.aload_n 0, 1) := by decide +kernel
theorem dX3_addStem_14 : decode cX3_addStem 14 = .ok (.getfield 37, 3) := by decide +kernel
theorem dX3_addStem_17 : decode cX3_addStem 17 = .ok (.iload_n 1, 1) := by decide +kernel
theorem dX3_addStem_18 : decode cX3_addStem 18 = .ok (.iastore, 1) := by decide +kernel
theorem dX3_addStem_19 : decode cX3_addStem 19 = .ok (.aload_n 0, 1) := by decide +kernel
theorem dX3_addStem_20 : decode cX3_addStem 20 = .ok (.dup, 1) := by decide +kernel
theorem dX3_addStem_21 : decode cX3_addStem 21 = .ok (.getfield 37, 3) := by decide +kernel
theorem dX3_addStem_24 : decode cX3_addStem 24 = .ok (.iconst 1, 1) := by decide +kernel
theorem dX3_addStem_25 : decode cX3_addStem 25 = .ok (.iadd, 1) := by decide +kernel
theorem dX3_addStem_26 : decode cX3_addStem 26 = .ok (.putfield 37, 3) := by decide +kernel
theorem dX3_addStem_29 : decode cX3_addStem 29 = .ok (.return_, 1) := by decide +kernel
theorem dX3_addEnding_0 : decode cX3_addEnding 0 = .ok (.aload_n 0, 1) := by decide +kernel
theorem dX3_addEnding_1 : decode cX3_addEnding 1 = .ok (.getfield 40, 3) := by decide +kernel
theorem dX3_addEnding_4 : decode cX3_addEnding 4 = .ok (.iconst 4, 1) := by decide +kernel
theorem dX3_addEnding_5 : decode cX3_addEnding 5 = .ok (.if_icmp .ge 23, 3) := by decide +kernel
theorem dX3_addEnding_8 : decode cX3_addEnding 8 = .ok (.aload_n 0, 1) := by decide +kernel
theorem dX3_addEnding_9 : decode cX3_addEnding 9 = .ok (.getfield 15, 3) := by decide +kernel
theorem dX3_addEnding_12 : decode cX3_addEnding 12 = .ok (.aload_n 0, 1) := by decide +kernel
theorem dX3_addEnding_13 : decode cX3_addEnding 13 = .ok (.getfield 40, 3) := by decide +kernel
theorem dX3_addEnding_16 : decode cX3_addEnding 16 = .ok (.iload_n 1, 1) := by decide +kernel
theorem dX3_addEnding_17 : decode cX3_addEnding 17 = .ok (.iastore, 1) := by decide +kernel
theorem dX3_addEnding_18 : decode cX3_addEnding 18 = .ok (.aload_n 0, 1) := by decide +kernel
theorem dX3_addEnding_19 : decode cX3_addEnding 19 = .ok (.dup, 1) := by decide +kernel
theorem dX3_addEnding_20 : decode cX3_addEnding 20 = .ok (.getfield 40, 3) := by decide +kernel
theorem dX3_addEnding_23 : decode cX3_addEnding 23 = .ok (.iconst 1, 1) := by decide +kernel
theorem dX3_addEnding_24 : decode cX3_addEnding 24 = .ok (.iadd, 1) := by decide +kernel
theorem dX3_addEnding_25 : decode cX3_addEnding 25 = .ok (.putfield 40, 3) := by decide +kernel
theorem dX3_addEnding_28 : decode cX3_addEnding 28 = .ok (.return_, 1) := by decide +kernel
theorem dX3_bar_0 : decode cX3_bar 0 = .ok (.aload_n 0, 1) := by decide +kernel
theorem dX3_bar_1 : decode cX3_bar 1 = .ok (.getfield 18, 3) := by decide +kernel
theorem dX3_bar_4 : decode cX3_bar 4 = .ok (.iload_n 1, 1) := by decide +kernel
theorem dX3_bar_5 : decode cX3_bar 5 = .ok (.dup2, 1) := by decide +kernel
theorem dX3_bar_6 : decode cX3_bar 6 = .ok (.iaload, 1) := by decide +kernel
theorem dX3_bar_7 : decode cX3_bar 7 = .ok (.iconst 1, 1) := by decide +kernel
theorem dX3_bar_8 : decode cX3_bar 8 = .ok (.iload_n 2, 1) := by decide +kernel
theorem dX3_bar_9 : decode cX3_bar 9 = .ok (.ishl, 1) := by decide +kernel
theorem dX3_bar_10 : decode cX3_bar 10 = .ok (.ior, 1) := by decide +kernel
theorem dX3_bar_11 : decode cX3_bar 11 = .ok (.iastore, 1) := by decide +kernel
theorem dX3_bar_12 : decode cX3_bar 12 = .ok (.aload_n 0, 1) := by decide +kernel
theorem dX3_bar_13 : decode cX3_bar 13 = .ok (.dup, 1) := by decide +kernel
theorem dX3_bar_14 : decode cX3_bar 14 = .ok (.getfield 43, 3) := by decide +kernel
theorem dX3_bar_17 : decode cX3_bar 17 = .ok (.iconst 1, 1) := by decide +kernel
theorem dX3_bar_18 : decode cX3_bar 18 = .ok (.iadd, 1) := by decide +kernel
theorem dX3_bar_19 : decode cX3_bar 19 = .ok (.putfield 43, 3) := by decide +kernel
theorem dX3_bar_22 : decode cX3_bar 22 = .ok (.return_, 1) := by decide +kernel
theorem dX3_isBarred_0 : decode cX3_isBarred 0 = .ok (.aload_n 0, 1) := by decide +kernel
theorem dX3_isBarred_1 : decode cX3_isBarred 1 = .ok (.getfield 18, 3) := by decide +kernel
theorem dX3_isBarred_4 : decode cX3_isBarred 4 = .ok (.iload_n 1, 1) := by decide +kernel
theorem dX3_isBarred_5 : decode cX3_isBarred 5 = .ok (.iaload, 1) := by decide +kernel
theorem dX3_isBarred_6 : decode cX3_isBarred 6 = .ok (.iload_n 2, 1) := by decide +kernel
theorem dX3_isBarred_7 : decode cX3_isBarred 7 = .ok (.ishr, 1) := by decide +kernel
theorem dX3_isBarred_8 : decode cX3_isBarred 8 = .ok (.iconst 1, 1) := by decide +kernel
theorem dX3_isBarred_9 : decode cX3_isBarred 9 = .ok (.iand, 1) := by decide +kernel
theorem dX3_isBarred_10 : decode cX3_isBarred 10 = .ok (.iconst 1, 1) := by decide +kernel
theorem dX3_isBarred_11 : decode cX3_isBarred 11 = .ok (.if_icmp .ne 7, 3) := by decide +kernel
theorem dX3_isBarred_14 : decode cX3_isBarred 14 = .ok (.iconst 1, 1) := by decide +kernel
theorem dX3_isBarred_15 : decode cX3_isBarred 15 = .ok (.goto 4, 3) := by decide +kernel
theorem dX3_isBarred_18 : decode cX3_isBarred 18 = .ok (.iconst 0, 1) := by decide +kernel
theorem dX3_isBarred_19 : decode cX3_isBarred 19 = .ok (.ireturn, 1) := by decide +kernel
theorem dX3_countWords_0 : decode cX3_countWords 0 = .ok (.aload_n 0, 1) := by decide +kernel
theorem dX3_countWords_1 : decode cX3_countWords 1 = .ok (.getfield 21, 3) := by decide +kernel
theorem dX3_countWords_4 : decode cX3_countWords 4 = .ok (.iconst 0, 1) := by decide +kernel
theorem dX3_countWords_5 : decode cX3_countWords 5 = .ok (.invokestatic 46, 3) := by decide +kernel
theorem dX3_countWords_8 : decode cX3_countWords 8 = .ok (.aload_n 0, 1) := by decide +kernel
theorem dX3_countWords_9 : decode cX3_countWords 9 = .ok (.getfield 24, 3) := by decide +kernel
theorem dX3_countWords_12 : decode cX3_countWords 12 = .ok (.iconst 0, 1) := by decide +kernel
theorem dX3_countWords_13 : decode cX3_countWords 13 = .ok (.invokestatic 46, 3) := by decide +kernel
theorem dX3_countWords_16 : decode cX3_countWords 16 = .ok (.iconst 0, 1) := by decide +kernel
theorem dX3_countWords_17 : decode cX3_countWords 17 = .ok (.istore_n 1, 1) := by decide +kernel
theorem dX3_countWords_18 : decode cX3_countWords 18 = .ok (.iload_n 1, 1) := by decide +kernel
theorem dX3_countWords_19 : decode cX3_countWords 19 = .ok (.aload_n 0, 1) := by decide +kernel
theorem dX3_countWords_20 : decode cX3_countWords 20 = .ok (.getfield 37, 3) := by decide +kernel
theorem dX3_countWords_23 : decode cX3_countWords 23 = .ok (.if_icmp .ge 24, 3) := by decide +kernel
theorem dX3_countWords_26 : decode cX3_countWords 26 = .ok (.aload_n 0, 1) := by decide +kernel
theorem dX3_countWords_27 : decode cX3_countWords 27 = .ok (.iconst 1, 1) := by decide +kernel
theorem dX3_countWords_28 : decode cX3_countWords 28 = .ok (.iload_n 1, 1) := by decide +kernel
theorem dX3_countWords_29 : decode cX3_countWords 29 = .ok (.iload_n 1, 1) := by decide +kernel
theorem dX3_countWords_30 : decode cX3_countWords 30 = .ok (.iconst 1, 1) := by decide +kernel
theorem dX3_countWords_31 : decode cX3_countWords 31 = .ok (.iadd, 1) := by decide +kernel
theorem dX3_countWords_32 : decode cX3_countWords 32 = .ok (.aload_n 0, 1) := by decide +kernel
theorem dX3_countWords_33 : decode cX3_countWords 33 = .ok (.getfield 11, 3) := by decide +kernel
theorem dX3_countWords_36 : decode cX3_countWords 36 = .ok (.iload_n 1, 1) := by decide +kernel
theorem dX3_countWords_37 : decode cX3_countWords 37 = .ok (.iaload, 1) := by decide +kernel
theorem dX3_countWords_38 : decode cX3_countWords 38 = .ok (.invokestatic 52, 3) := by decide +kernel
theorem dX3_countWords_41 : decode cX3_countWords 41 = .ok (.iinc 1 1, 3) := by decide +kernel
theorem dX3_countWords_44 : decode cX3_countWords 44 = .ok (.goto (-26), 3) := by decide +kernel
theorem dX3_countWords_47 : decode cX3_countWords 47 = .ok (.iconst 1, 1) := by decide +kernel
theorem dX3_countWords_48 : decode cX3_countWords 48 = .ok (.istore_n 1, 1) := by decide +kernel
theorem dX3_countWords_49 : decode cX3_countWords 49 = .ok (.iload_n 1, 1) := by decide +kernel
theorem dX3_countWords_50 : decode cX3_countWords 50 = .ok (.bipush 41, 2) := by decide +kernel
theorem dX3_countWords_52 : decode cX3_countWords 52 = .ok (.if_icmp .gt 36, 3) := by decide +kernel
theorem dX3_countWords_55 : decode cX3_countWords 55 = .ok (.aload_n 0, 1) := by decide +kernel
theorem dX3_countWords_56 : decode cX3_countWords 56 = .ok (.getfield 27, 3) := by decide +kernel
theorem dX3_countWords_59 : decode cX3_countWords 59 = .ok (.iload_n 1, 1) := by decide +kernel
theorem dX3_countWords_60 : decode cX3_countWords 60 = .ok (.aload_n 0, 1) := by decide +kernel
theorem dX3_countWords_61 : decode cX3_countWords 61 = .ok (.getfield 21, 3) := by decide +kernel
theorem dX3_countWords_64 : decode cX3_countWords 64 = .ok (.iload_n 1, 1) := by decide +kernel
theorem dX3_countWords_65 : decode cX3_countWords 65 = .ok (.iaload, 1) := by decide +kernel
theorem dX3_countWords_66 : decode cX3_countWords 66 = .ok (.ifCond .le 7, 3) := by decide +kernel
theorem dX3_countWords_69 : decode cX3_countWords 69 = .ok (.iload_n 1, 1) := by decide +kernel
theorem dX3_countWords_70 : decode cX3_countWords 70 = .ok (.goto 11, 3) := by decide +kernel
theorem dX3_countWords_73 : decode cX3_countWords 73 = .ok (.aload_n 0, 1) := by decide +kernel
theorem dX3_countWords_74 : decode cX3_countWords 74 = .ok (.getfield 27, 3) := by decide +kernel
theorem dX3_countWords_77 : decode cX3_countWords 77 = .ok (.iload_n 1, 1) := by decide +kernel
theorem dX3_countWords_78 : decode cX3_countWords 78 = .ok (.iconst 1, 1) := by decide +kernel
theorem dX3_countWords_79 : decode cX3_countWords 79 = .ok (.isub, 1) := by decide +kernel
theorem dX3_countWords_80 : decode cX3_countWords 80 = .ok (.iaload, 1) := by decide +kernel
theorem dX3_countWords_81 : decode cX3_countWords 81 = .ok (.iastore, 1) := by decide +kernel
theorem dX3_countWords_82 : decode cX3_countWords 82 = .ok (.iinc 1 1, 3) := by decide +kernel
theorem dX3_countWords_85 : decode cX3_countWords 85 = .ok (.goto (-36), 3) := by decide +kernel
theorem dX3_countWords_88 : decode cX3_countWords 88 = .ok (.return_, 1) := by decide +kernel
theorem dX3_growFrom_0 : decode cX3_growFrom 0 = .ok (.iload_n 1, 1) := by decide +kernel
theorem dX3_growFrom_1 : decode cX3_growFrom 1 = .ok (.aload_n 0, 1) := by decide +kernel
theorem dX3_growFrom_2 : decode cX3_growFrom 2 = .ok (.getfield 30, 3) := by decide +kernel
theorem dX3_growFrom_5 : decode cX3_growFrom 5 = .ok (.if_icmp .gt 8, 3) := by decide +kernel
theorem dX3_growFrom_8 : decode cX3_growFrom 8 = .ok (.iload_n 1, 1) := by decide +kernel
theorem dX3_growFrom_9 : decode cX3_growFrom 9 = .ok (.iconst 4, 1) := by decide +kernel
theorem dX3_growFrom_10 : decode cX3_growFrom 10 = .ok (.if_icmp .le 4, 3) := by decide +kernel
theorem dX3_growFrom_13 : decode cX3_growFrom 13 = .ok (.return_, 1) := by decide +kernel
theorem dX3_growFrom_14 : decode cX3_growFrom 14 = .ok (.aload_n 0, 1) := by decide +kernel
theorem dX3_growFrom_15 : decode cX3_growFrom 15 = .ok (.iload_n 3, 1) := by decide +kernel
theorem dX3_growFrom_16 : decode cX3_growFrom 16 = .ok (.bipush 10, 2) := by decide +kernel
theorem dX3_growFrom_18 : decode cX3_growFrom 18 = .ok (.imul, 1) := by decide +kernel
theorem dX3_growFrom_19 : decode cX3_growFrom 19 = .ok (.iload 4, 2) := by decide +kernel
theorem dX3_growFrom_21 : decode cX3_growFrom 21 = .ok (.invokevirtual 56, 3) := by decide +kernel
theorem dX3_growFrom_24 : decode cX3_growFrom 24 = .ok (.iconst 0, 1) := by decide +kernel
theorem dX3_growFrom_25 : decode cX3_growFrom 25 = .ok (.istore 5, 2) := by decide +kernel
theorem dX3_growFrom_27 : decode cX3_growFrom 27 = .ok (.iload 5, 2) := by decide +kernel
theorem dX3_growFrom_29 : decode cX3_growFrom 29 = .ok (.aload_n 0, 1) := by decide +kernel
theorem dX3_growFrom_30 : decode cX3_growFrom 30 = .ok (.getfield 40, 3) := by decide +kernel
theorem dX3_growFrom_33 : decode cX3_growFrom 33 = .ok (.if_icmp .ge 32, 3) := by decide +kernel
theorem dX3_growFrom_36 : decode cX3_growFrom 36 = .ok (.aload_n 0, 1) := by decide +kernel
theorem dX3_growFrom_37 : decode cX3_growFrom 37 = .ok (.iload_n 3, 1) := by decide +kernel
theorem dX3_growFrom_38 : decode cX3_growFrom 38 = .ok (.bipush 10, 2) := by decide +kernel
theorem dX3_growFrom_40 : decode cX3_growFrom 40 = .ok (.imul, 1) := by decide +kernel
theorem dX3_growFrom_41 : decode cX3_growFrom 41 = .ok (.iload 5, 2) := by decide +kernel
theorem dX3_growFrom_43 : decode cX3_growFrom 43 = .ok (.iadd, 1) := by decide +kernel
theorem dX3_growFrom_44 : decode cX3_growFrom 44 = .ok (.iconst 1, 1) := by decide +kernel
theorem dX3_growFrom_45 : decode cX3_growFrom 45 = .ok (.iadd, 1) := by decide +kernel
theorem dX3_growFrom_46 : decode cX3_growFrom 46 = .ok (.iload 4, 2) := by decide +kernel
theorem dX3_growFrom_48 : decode cX3_growFrom 48 = .ok (.aload_n 0, 1) := by decide +kernel
theorem dX3_growFrom_49 : decode cX3_growFrom 49 = .ok (.getfield 15, 3) := by decide +kernel
theorem dX3_growFrom_52 : decode cX3_growFrom 52 = .ok (.iload 5, 2) := by decide +kernel
theorem dX3_growFrom_54 : decode cX3_growFrom 54 = .ok (.iaload, 1) := by decide +kernel
theorem dX3_growFrom_55 : decode cX3_growFrom 55 = .ok (.iadd, 1) := by decide +kernel
theorem dX3_growFrom_56 : decode cX3_growFrom 56 = .ok (.invokevirtual 56, 3) := by decide +kernel
theorem dX3_growFrom_59 : decode cX3_growFrom 59 = .ok (.iinc 5 1, 3) := by decide +kernel
theorem dX3_growFrom_62 : decode cX3_growFrom 62 = .ok (.goto (-35), 3) := by decide +kernel
theorem dX3_growFrom_65 : decode cX3_growFrom 65 = .ok (.iconst 0, 1) := by decide +kernel
theorem dX3_growFrom_66 : decode cX3_growFrom 66 = .ok (.istore 5, 2) := by decide +kernel
theorem dX3_growFrom_68 : decode cX3_growFrom 68 = .ok (.iload 5, 2) := by decide +kernel
theorem dX3_growFrom_70 : decode cX3_growFrom 70 = .ok (.aload_n 0, 1) := by decide +kernel
theorem dX3_growFrom_71 : decode cX3_growFrom 71 = .ok (.getfield 37, 3) := by decide +kernel
theorem dX3_growFrom_74 : decode cX3_growFrom 74 = .ok (.if_icmp .ge 47, 3) := by decide +kernel
theorem dX3_growFrom_77 : decode cX3_growFrom 77 = .ok (.aload_n 0, 1) := by decide +kernel
theorem dX3_growFrom_78 : decode cX3_growFrom 78 = .ok (.iload_n 2, 1) := by decide +kernel
theorem dX3_growFrom_79 : decode cX3_growFrom 79 = .ok (.iload 5, 2) := by decide +kernel
theorem dX3_growFrom_81 : decode cX3_growFrom 81 = .ok (.invokevirtual 60, 3) := by decide +kernel
theorem dX3_growFrom_84 : decode cX3_growFrom 84 = .ok (.ifCond .ne 31, 3) := by decide +kernel
theorem dX3_growFrom_87 : decode cX3_growFrom 87 = .ok (.aload_n 0, 1) := by decide +kernel
theorem dX3_growFrom_88 : decode cX3_growFrom 88 = .ok (.iload_n 1, 1) := by decide +kernel
theorem dX3_growFrom_89 : decode cX3_growFrom 89 = .ok (.iconst 1, 1) := by decide +kernel
theorem dX3_growFrom_90 : decode cX3_growFrom 90 = .ok (.iadd, 1) := by decide +kernel
theorem dX3_growFrom_91 : decode cX3_growFrom 91 = .ok (.iload 5, 2) := by decide +kernel
theorem dX3_growFrom_93 : decode cX3_growFrom 93 = .ok (.iload_n 3, 1) := by decide +kernel
theorem dX3_growFrom_94 : decode cX3_growFrom 94 = .ok (.bipush 10, 2) := by decide +kernel
theorem dX3_growFrom_96 : decode cX3_growFrom 96 = .ok (.imul, 1) := by decide +kernel
theorem dX3_growFrom_97 : decode cX3_growFrom 97 = .ok (.iload 5, 2) := by decide +kernel
theorem dX3_growFrom_99 : decode cX3_growFrom 99 = .ok (.iadd, 1) := by decide +kernel
theorem dX3_growFrom_100 : decode cX3_growFrom 100 = .ok (.iconst 1, 1) := by decide +kernel
theorem dX3_growFrom_101 : decode cX3_growFrom 101 = .ok (.iadd, 1) := by decide +kernel
theorem dX3_growFrom_102 : decode cX3_growFrom 102 = .ok (.iload 4, 2) := by decide +kernel
theorem dX3_growFrom_104 : decode cX3_growFrom 104 = .ok (.aload_n 0, 1) := by decide +kernel
theorem dX3_growFrom_105 : decode cX3_growFrom 105 = .ok (.getfield 11, 3) := by decide +kernel
theorem dX3_growFrom_108 : decode cX3_growFrom 108 = .ok (.iload 5, 2) := by decide +kernel
theorem dX3_growFrom_110 : decode cX3_growFrom 110 = .ok (.iaload, 1) := by decide +kernel
theorem dX3_growFrom_111 : decode cX3_growFrom 111 = .ok (.iadd, 1) := by decide +kernel
theorem dX3_growFrom_112 : decode cX3_growFrom 112 = .ok (.invokestatic 52, 3) := by decide +kernel
theorem dX3_growFrom_115 : decode cX3_growFrom 115 = .ok (.iinc 5 1, 3) := by decide +kernel
theorem dX3_growFrom_118 : decode cX3_growFrom 118 = .ok (.goto (-50), 3) := by decide +kernel
theorem dX3_growFrom_121 : decode cX3_growFrom 121 = .ok (.return_, 1) := by decide +kernel
theorem dX3_enter_0 : decode cX3_enter 0 = .ok (.iload_n 2, 1) := by decide +kernel
theorem dX3_enter_1 : decode cX3_enter 1 = .ok (.bipush 41, 2) := by decide +kernel
theorem dX3_enter_3 : decode cX3_enter 3 = .ok (.if_icmp .le 4, 3) := by decide +kernel
theorem dX3_enter_6 : decode cX3_enter 6 = .ok (.return_, 1) := by decide +kernel
theorem dX3_enter_7 : decode cX3_enter 7 = .ok (.aload_n 0, 1) := by decide +kernel
theorem dX3_enter_8 : decode cX3_enter 8 = .ok (.getfield 21, 3) := by decide +kernel
theorem dX3_enter_11 : decode cX3_enter 11 = .ok (.iload_n 2, 1) := by decide +kernel
theorem dX3_enter_12 : decode cX3_enter 12 = .ok (.dup2, 1) := by decide +kernel
theorem dX3_enter_13 : decode cX3_enter 13 = .ok (.iaload, 1) := by decide +kernel
theorem dX3_enter_14 : decode cX3_enter 14 = .ok (.iconst 1, 1) := by decide +kernel
theorem dX3_enter_15 : decode cX3_enter 15 = .ok (.iadd, 1) := by decide +kernel
theorem dX3_enter_16 : decode cX3_enter 16 = .ok (.iastore, 1) := by decide +kernel
theorem dX3_enter_17 : decode cX3_enter 17 = .ok (.aload_n 0, 1) := by decide +kernel
theorem dX3_enter_18 : decode cX3_enter 18 = .ok (.getfield 24, 3) := by decide +kernel
theorem dX3_enter_21 : decode cX3_enter 21 = .ok (.iload_n 2, 1) := by decide +kernel
theorem dX3_enter_22 : decode cX3_enter 22 = .ok (.iaload, 1) := by decide +kernel
theorem dX3_enter_23 : decode cX3_enter 23 = .ok (.ifCond .eq 13, 3) := by decide +kernel
theorem dX3_enter_26 : decode cX3_enter 26 = .ok (.iload_n 1, 1) := by decide +kernel
theorem dX3_enter_27 : decode cX3_enter 27 = .ok (.aload_n 0, 1) := by decide +kernel
theorem dX3_enter_28 : decode cX3_enter 28 = .ok (.getfield 24, 3) := by decide +kernel
theorem dX3_enter_31 : decode cX3_enter 31 = .ok (.iload_n 2, 1) := by decide +kernel
theorem dX3_enter_32 : decode cX3_enter 32 = .ok (.iaload, 1) := by decide +kernel
theorem dX3_enter_33 : decode cX3_enter 33 = .ok (.if_icmp .ge 10, 3) := by decide +kernel
theorem dX3_enter_36 : decode cX3_enter 36 = .ok (.aload_n 0, 1) := by decide +kernel
theorem dX3_enter_37 : decode cX3_enter 37 = .ok (.getfield 24, 3) := by decide +kernel
theorem dX3_enter_40 : decode cX3_enter 40 = .ok (.iload_n 2, 1) := by decide +kernel
theorem dX3_enter_41 : decode cX3_enter 41 = .ok (.iload_n 1, 1) := by decide +kernel
theorem dX3_enter_42 : decode cX3_enter 42 = .ok (.iastore, 1) := by decide +kernel
theorem dX3_enter_43 : decode cX3_enter 43 = .ok (.return_, 1) := by decide +kernel
theorem dX3_lengthOf_0 : decode cX3_lengthOf 0 = .ok (.iload_n 1, 1) := by decide +kernel
theorem dX3_lengthOf_1 : decode cX3_lengthOf 1 = .ok (.ifCond .lt 14, 3) := by decide +kernel
theorem dX3_lengthOf_4 : decode cX3_lengthOf 4 = .ok (.iload_n 1, 1) := by decide +kernel
theorem dX3_lengthOf_5 : decode cX3_lengthOf 5 = .ok (.bipush 10, 2) := by decide +kernel
theorem dX3_lengthOf_7 : decode cX3_lengthOf 7 = .ok (.irem, 1) := by decide +kernel
theorem dX3_lengthOf_8 : decode cX3_lengthOf 8 = .ok (.aload_n 0, 1) := by decide +kernel
theorem dX3_lengthOf_9 : decode cX3_lengthOf 9 = .ok (.getfield 40, 3) := by decide +kernel
theorem dX3_lengthOf_12 : decode cX3_lengthOf 12 = .ok (.if_icmp .le 5, 3) := by decide +kernel
theorem dX3_lengthOf_15 : decode cX3_lengthOf 15 = .ok (.iconst (-1), 1) := by decide +kernel
theorem dX3_lengthOf_16 : decode cX3_lengthOf 16 = .ok (.ireturn, 1) := by decide +kernel
theorem dX3_lengthOf_17 : decode cX3_lengthOf 17 = .ok (.iload_n 1, 1) := by decide +kernel
theorem dX3_lengthOf_18 : decode cX3_lengthOf 18 = .ok (.bipush 10, 2) := by decide +kernel
theorem dX3_lengthOf_20 : decode cX3_lengthOf 20 = .ok (.irem, 1) := by decide +kernel
theorem dX3_lengthOf_21 : decode cX3_lengthOf 21 = .ok (.ifCond .ne 7, 3) := by decide +kernel
theorem dX3_lengthOf_24 : decode cX3_lengthOf 24 = .ok (.iconst 0, 1) := by decide +kernel
theorem dX3_lengthOf_25 : decode cX3_lengthOf 25 = .ok (.goto 14, 3) := by decide +kernel
theorem dX3_lengthOf_28 : decode cX3_lengthOf 28 = .ok (.aload_n 0, 1) := by decide +kernel
theorem dX3_lengthOf_29 : decode cX3_lengthOf 29 = .ok (.getfield 15, 3) := by decide +kernel
theorem dX3_lengthOf_32 : decode cX3_lengthOf 32 = .ok (.iload_n 1, 1) := by decide +kernel
theorem dX3_lengthOf_33 : decode cX3_lengthOf 33 = .ok (.bipush 10, 2) := by decide +kernel
theorem dX3_lengthOf_35 : decode cX3_lengthOf 35 = .ok (.irem, 1) := by decide +kernel
theorem dX3_lengthOf_36 : decode cX3_lengthOf 36 = .ok (.iconst 1, 1) := by decide +kernel
theorem dX3_lengthOf_37 : decode cX3_lengthOf 37 = .ok (.isub, 1) := by decide +kernel
theorem dX3_lengthOf_38 : decode cX3_lengthOf 38 = .ok (.iaload, 1) := by decide +kernel
theorem dX3_lengthOf_39 : decode cX3_lengthOf 39 = .ok (.istore_n 2, 1) := by decide +kernel
theorem dX3_lengthOf_40 : decode cX3_lengthOf 40 = .ok (.iload_n 1, 1) := by decide +kernel
theorem dX3_lengthOf_41 : decode cX3_lengthOf 41 = .ok (.bipush 10, 2) := by decide +kernel
theorem dX3_lengthOf_43 : decode cX3_lengthOf 43 = .ok (.idiv, 1) := by decide +kernel
theorem dX3_lengthOf_44 : decode cX3_lengthOf 44 = .ok (.istore_n 3, 1) := by decide +kernel
theorem dX3_lengthOf_45 : decode cX3_lengthOf 45 = .ok (.iload_n 3, 1) := by decide +kernel
theorem dX3_lengthOf_46 : decode cX3_lengthOf 46 = .ok (.ifCond .ne 5, 3) := by decide +kernel
theorem dX3_lengthOf_49 : decode cX3_lengthOf 49 = .ok (.iconst (-1), 1) := by decide +kernel
theorem dX3_lengthOf_50 : decode cX3_lengthOf 50 = .ok (.ireturn, 1) := by decide +kernel
theorem dX3_lengthOf_51 : decode cX3_lengthOf 51 = .ok (.iconst (-1), 1) := by decide +kernel
theorem dX3_lengthOf_52 : decode cX3_lengthOf 52 = .ok (.istore 4, 2) := by decide +kernel
theorem dX3_lengthOf_54 : decode cX3_lengthOf 54 = .ok (.iconst 0, 1) := by decide +kernel
theorem dX3_lengthOf_55 : decode cX3_lengthOf 55 = .ok (.istore 5, 2) := by decide +kernel
theorem dX3_lengthOf_57 : decode cX3_lengthOf 57 = .ok (.iload 5, 2) := by decide +kernel
theorem dX3_lengthOf_59 : decode cX3_lengthOf 59 = .ok (.aload_n 0, 1) := by decide +kernel
theorem dX3_lengthOf_60 : decode cX3_lengthOf 60 = .ok (.getfield 30, 3) := by decide +kernel
theorem dX3_lengthOf_63 : decode cX3_lengthOf 63 = .ok (.if_icmp .ge 73, 3) := by decide +kernel
theorem dX3_lengthOf_66 : decode cX3_lengthOf 66 = .ok (.iload_n 3, 1) := by decide +kernel
theorem dX3_lengthOf_67 : decode cX3_lengthOf 67 = .ok (.ifCond .le 69, 3) := by decide +kernel
theorem dX3_lengthOf_70 : decode cX3_lengthOf 70 = .ok (.iload_n 3, 1) := by decide +kernel
theorem dX3_lengthOf_71 : decode cX3_lengthOf 71 = .ok (.bipush 10, 2) := by decide +kernel
theorem dX3_lengthOf_73 : decode cX3_lengthOf 73 = .ok (.irem, 1) := by decide +kernel
theorem dX3_lengthOf_74 : decode cX3_lengthOf 74 = .ok (.iconst 1, 1) := by decide +kernel
theorem dX3_lengthOf_75 : decode cX3_lengthOf 75 = .ok (.isub, 1) := by decide +kernel
theorem dX3_lengthOf_76 : decode cX3_lengthOf 76 = .ok (.istore 6, 2) := by decide +kernel
theorem dX3_lengthOf_78 : decode cX3_lengthOf 78 = .ok (.iload 6, 2) := by decide +kernel
theorem dX3_lengthOf_80 : decode cX3_lengthOf 80 = .ok (.ifCond .lt 29, 3) := by decide +kernel
theorem dX3_lengthOf_83 : decode cX3_lengthOf 83 = .ok (.iload 6, 2) := by decide +kernel
theorem dX3_lengthOf_85 : decode cX3_lengthOf 85 = .ok (.aload_n 0, 1) := by decide +kernel
theorem dX3_lengthOf_86 : decode cX3_lengthOf 86 = .ok (.getfield 37, 3) := by decide +kernel
theorem dX3_lengthOf_89 : decode cX3_lengthOf 89 = .ok (.if_icmp .ge 20, 3) := by decide +kernel
theorem dX3_lengthOf_92 : decode cX3_lengthOf 92 = .ok (.iload 4, 2) := by decide +kernel
theorem dX3_lengthOf_94 : decode cX3_lengthOf 94 = .ok (.iconst (-1), 1) := by decide +kernel
theorem dX3_lengthOf_95 : decode cX3_lengthOf 95 = .ok (.if_icmp .eq 16, 3) := by decide +kernel
theorem dX3_lengthOf_98 : decode cX3_lengthOf 98 = .ok (.aload_n 0, 1) := by decide +kernel
theorem dX3_lengthOf_99 : decode cX3_lengthOf 99 = .ok (.iload 6, 2) := by decide +kernel
theorem dX3_lengthOf_101 : decode cX3_lengthOf 101 = .ok (.iload 4, 2) := by decide +kernel
theorem dX3_lengthOf_103 : decode cX3_lengthOf 103 = .ok (.invokevirtual 60, 3) := by decide +kernel
theorem dX3_lengthOf_106 : decode cX3_lengthOf 106 = .ok (.ifCond .eq 5, 3) := by decide +kernel
theorem dX3_lengthOf_109 : decode cX3_lengthOf 109 = .ok (.iconst (-1), 1) := by decide +kernel
theorem dX3_lengthOf_110 : decode cX3_lengthOf 110 = .ok (.ireturn, 1) := by decide +kernel
theorem dX3_lengthOf_111 : decode cX3_lengthOf 111 = .ok (.iload_n 2, 1) := by decide +kernel
theorem dX3_lengthOf_112 : decode cX3_lengthOf 112 = .ok (.aload_n 0, 1) := by decide +kernel
theorem dX3_lengthOf_113 : decode cX3_lengthOf 113 = .ok (.getfield 11, 3) := by decide +kernel
theorem dX3_lengthOf_116 : decode cX3_lengthOf 116 = .ok (.iload 6, 2) := by decide +kernel
theorem dX3_lengthOf_118 : decode cX3_lengthOf 118 = .ok (.iaload, 1) := by decide +kernel
theorem dX3_lengthOf_119 : decode cX3_lengthOf 119 = .ok (.iadd, 1) := by decide +kernel
theorem dX3_lengthOf_120 : decode cX3_lengthOf 120 = .ok (.istore_n 2, 1) := by decide +kernel
theorem dX3_lengthOf_121 : decode cX3_lengthOf 121 = .ok (.iload 6, 2) := by decide +kernel
theorem dX3_lengthOf_123 : decode cX3_lengthOf 123 = .ok (.istore 4, 2) := by decide +kernel
theorem dX3_lengthOf_125 : decode cX3_lengthOf 125 = .ok (.iload_n 3, 1) := by decide +kernel
theorem dX3_lengthOf_126 : decode cX3_lengthOf 126 = .ok (.bipush 10, 2) := by decide +kernel
theorem dX3_lengthOf_128 : decode cX3_lengthOf 128 = .ok (.idiv, 1) := by decide +kernel
theorem dX3_lengthOf_129 : decode cX3_lengthOf 129 = .ok (.istore_n 3, 1) := by decide +kernel
theorem dX3_lengthOf_130 : decode cX3_lengthOf 130 = .ok (.iinc 5 1, 3) := by decide +kernel
theorem dX3_lengthOf_133 : decode cX3_lengthOf 133 = .ok (.goto (-76), 3) := by decide +kernel
theorem dX3_lengthOf_136 : decode cX3_lengthOf 136 = .ok (.iload_n 3, 1) := by decide +kernel
theorem dX3_lengthOf_137 : decode cX3_lengthOf 137 = .ok (.ifCond .ne 7, 3) := by decide +kernel
theorem dX3_lengthOf_140 : decode cX3_lengthOf 140 = .ok (.iload_n 2, 1) := by decide +kernel
theorem dX3_lengthOf_141 : decode cX3_lengthOf 141 = .ok (.goto 4, 3) := by decide +kernel
theorem dX3_lengthOf_144 : decode cX3_lengthOf 144 = .ok (.iconst (-1), 1) := by decide +kernel
theorem dX3_lengthOf_145 : decode cX3_lengthOf 145 = .ok (.ireturn, 1) := by decide +kernel
theorem dX3_syllablesOf_0 : decode cX3_syllablesOf 0 = .ok (.iload_n 1, 1) := by decide +kernel
theorem dX3_syllablesOf_1 : decode cX3_syllablesOf 1 = .ok (.iconst (-1), 1) := by decide +kernel
theorem dX3_syllablesOf_2 : decode cX3_syllablesOf 2 = .ok (.if_icmp .ne 7, 3) := by decide +kernel
theorem dX3_syllablesOf_5 : decode cX3_syllablesOf 5 = .ok (.iconst 0, 1) := by decide +kernel
theorem dX3_syllablesOf_6 : decode cX3_syllablesOf 6 = .ok (.goto 8, 3) := by decide +kernel
theorem dX3_syllablesOf_9 : decode cX3_syllablesOf 9 = .ok (.aload_n 0, 1) := by decide +kernel
theorem dX3_syllablesOf_10 : decode cX3_syllablesOf 10 = .ok (.iload_n 1, 1) := by decide +kernel
theorem dX3_syllablesOf_11 : decode cX3_syllablesOf 11 = .ok (.invokevirtual 64, 3) := by decide +kernel
theorem dX3_syllablesOf_14 : decode cX3_syllablesOf 14 = .ok (.ireturn, 1) := by decide +kernel
theorem dX3_longestWithin_0 : decode cX3_longestWithin 0 = .ok (.iload_n 1, 1) := by decide +kernel
theorem dX3_longestWithin_1 : decode cX3_longestWithin 1 = .ok (.ifCond .ge 7, 3) := by decide +kernel
theorem dX3_longestWithin_4 : decode cX3_longestWithin 4 = .ok (.iconst 0, 1) := by decide +kernel
theorem dX3_longestWithin_5 : decode cX3_longestWithin 5 = .ok (.goto 14, 3) := by decide +kernel
theorem dX3_longestWithin_8 : decode cX3_longestWithin 8 = .ok (.aload_n 0, 1) := by decide +kernel
theorem dX3_longestWithin_9 : decode cX3_longestWithin 9 = .ok (.getfield 27, 3) := by decide +kernel
theorem dX3_longestWithin_12 : decode cX3_longestWithin 12 = .ok (.iload_n 1, 1) := by decide +kernel
theorem dX3_longestWithin_13 : decode cX3_longestWithin 13 = .ok (.bipush 41, 2) := by decide +kernel
theorem dX3_longestWithin_15 : decode cX3_longestWithin 15 = .ok (.invokestatic 68, 3) := by decide +kernel
theorem dX3_longestWithin_18 : decode cX3_longestWithin 18 = .ok (.iaload, 1) := by decide +kernel
theorem dX3_longestWithin_19 : decode cX3_longestWithin 19 = .ok (.ireturn, 1) := by decide +kernel
theorem dX3_lengthsWithin_0 : decode cX3_lengthsWithin 0 = .ok (.lconst 1, 1) := by decide +kernel
theorem dX3_lengthsWithin_1 : decode cX3_lengthsWithin 1 = .ok (.lstore_n 2, 1) := by decide +kernel
theorem dX3_lengthsWithin_2 : decode cX3_lengthsWithin 2 = .ok (.iconst 1, 1) := by decide +kernel
theorem dX3_lengthsWithin_3 : decode cX3_lengthsWithin 3 = .ok (.istore 4, 2) := by decide +kernel
theorem dX3_lengthsWithin_5 : decode cX3_lengthsWithin 5 = .ok (.iload 4, 2) := by decide +kernel
theorem dX3_lengthsWithin_7 : decode cX3_lengthsWithin 7 = .ok (.iload_n 1, 1) := by decide +kernel
theorem dX3_lengthsWithin_8 : decode cX3_lengthsWithin 8 = .ok (.if_icmp .gt 33, 3) := by decide +kernel
theorem dX3_lengthsWithin_11 : decode cX3_lengthsWithin 11 = .ok (.iload 4, 2) := by decide +kernel
theorem dX3_lengthsWithin_13 : decode cX3_lengthsWithin 13 = .ok (.bipush 41, 2) := by decide +kernel
theorem dX3_lengthsWithin_15 : decode cX3_lengthsWithin 15 = .ok (.if_icmp .gt 26, 3) := by decide +kernel
theorem dX3_lengthsWithin_18 : decode cX3_lengthsWithin 18 = .ok (.aload_n 0, 1) := by decide +kernel
theorem dX3_lengthsWithin_19 : decode cX3_lengthsWithin 19 = .ok (.getfield 21, 3) := by decide +kernel
theorem dX3_lengthsWithin_22 : decode cX3_lengthsWithin 22 = .ok (.iload 4, 2) := by decide +kernel
theorem dX3_lengthsWithin_24 : decode cX3_lengthsWithin 24 = .ok (.iaload, 1) := by decide +kernel
theorem dX3_lengthsWithin_25 : decode cX3_lengthsWithin 25 = .ok (.ifCond .le 10, 3) := by decide +kernel
theorem dX3_lengthsWithin_28 : decode cX3_lengthsWithin 28 = .ok (.lload_n 2, 1) := by decide +kernel
theorem dX3_lengthsWithin_29 : decode cX3_lengthsWithin 29 = .ok (.lconst 1, 1) := by decide +kernel
theorem dX3_lengthsWithin_30 : decode cX3_lengthsWithin 30 = .ok (.iload 4, 2) := by decide +kernel
theorem dX3_lengthsWithin_32 : decode cX3_lengthsWithin 32 = .ok (.lshl, 1) := by decide +kernel
theorem dX3_lengthsWithin_33 : decode cX3_lengthsWithin 33 = .ok (.lor, 1) := by decide +kernel
theorem dX3_lengthsWithin_34 : decode cX3_lengthsWithin 34 = .ok (.lstore_n 2, 1) := by decide +kernel
theorem dX3_lengthsWithin_35 : decode cX3_lengthsWithin 35 = .ok (.iinc 4 1, 3) := by decide +kernel
theorem dX3_lengthsWithin_38 : decode cX3_lengthsWithin 38 = .ok (.goto (-33), 3) := by decide +kernel
theorem dX3_lengthsWithin_41 : decode cX3_lengthsWithin 41 = .ok (.lload_n 2, 1) := by decide +kernel
theorem dX3_lengthsWithin_42 : decode cX3_lengthsWithin 42 = .ok (.lreturn, 1) := by decide +kernel
theorem dX3_pullOf_0 : decode cX3_pullOf 0 = .ok (.iload_n 1, 1) := by decide +kernel
theorem dX3_pullOf_1 : decode cX3_pullOf 1 = .ok (.ifCond .gt 5, 3) := by decide +kernel
theorem dX3_pullOf_4 : decode cX3_pullOf 4 = .ok (.iconst 0, 1) := by decide +kernel
theorem dX3_pullOf_5 : decode cX3_pullOf 5 = .ok (.ireturn, 1) := by decide +kernel
theorem dX3_pullOf_6 : decode cX3_pullOf 6 = .ok (.iconst 0, 1) := by decide +kernel
theorem dX3_pullOf_7 : decode cX3_pullOf 7 = .ok (.iload_n 1, 1) := by decide +kernel
theorem dX3_pullOf_8 : decode cX3_pullOf 8 = .ok (.bipush 10, 2) := by decide +kernel
theorem dX3_pullOf_10 : decode cX3_pullOf 10 = .ok (.iload_n 2, 1) := by decide +kernel
theorem dX3_pullOf_11 : decode cX3_pullOf 11 = .ok (.bipush 10, 2) := by decide +kernel
theorem dX3_pullOf_13 : decode cX3_pullOf 13 = .ok (.idiv, 1) := by decide +kernel
theorem dX3_pullOf_14 : decode cX3_pullOf 14 = .ok (.iadd, 1) := by decide +kernel
theorem dX3_pullOf_15 : decode cX3_pullOf 15 = .ok (.imul, 1) := by decide +kernel
theorem dX3_pullOf_16 : decode cX3_pullOf 16 = .ok (.bipush 10, 2) := by decide +kernel
theorem dX3_pullOf_18 : decode cX3_pullOf 18 = .ok (.idiv, 1) := by decide +kernel
theorem dX3_pullOf_19 : decode cX3_pullOf 19 = .ok (.aload_n 0, 1) := by decide +kernel
theorem dX3_pullOf_20 : decode cX3_pullOf 20 = .ok (.getfield 34, 3) := by decide +kernel
theorem dX3_pullOf_23 : decode cX3_pullOf 23 = .ok (.isub, 1) := by decide +kernel
theorem dX3_pullOf_24 : decode cX3_pullOf 24 = .ok (.invokestatic 74, 3) := by decide +kernel
theorem dX3_pullOf_27 : decode cX3_pullOf 27 = .ok (.ireturn, 1) := by decide +kernel
theorem dX4_init_0 : decode cX4_init 0 = .ok (.aload_n 0, 1) := by decide +kernel
theorem dX4_init_1 : decode cX4_init 1 = .ok (.invokespecial 1, 3) := by decide +kernel
theorem dX4_init_4 : decode cX4_init 4 = .ok (.aload_n 0, 1) := by decide +kernel
theorem dX4_init_5 : decode cX4_init 5 = .ok (.new 7, 3) := by decide +kernel
theorem dX4_init_8 : decode cX4_init 8 = .ok (.dup, 1) := by decide +kernel
theorem dX4_init_9 : decode cX4_init 9 = .ok (.invokespecial 9, 3) := by decide +kernel
theorem dX4_init_12 : decode cX4_init 12 = .ok (.putfield 10, 3) := by decide +kernel
theorem dX4_init_15 : decode cX4_init 15 = .ok (.return_, 1) := by decide +kernel
theorem dX5_init_0 : decode cX5_init 0 = .ok (.aload_n 0, 1) := by decide +kernel
theorem dX5_init_1 : decode cX5_init 1 = .ok (.invokespecial 1, 3) := by decide +kernel
theorem dX5_init_4 : decode cX5_init 4 = .ok (.aload_n 0, 1) := by decide +kernel
theorem dX5_init_5 : decode cX5_init 5 = .ok (.bipush 20, 2) := by decide +kernel
theorem dX5_init_7 : decode cX5_init 7 = .ok (.anewarray 9, 3) := by decide +kernel
theorem dX5_init_10 : decode cX5_init 10 = .ok (.putfield 11, 3) := by decide +kernel
theorem dX5_init_13 : decode cX5_init 13 = .ok (.iconst 0, 1) := by decide +kernel
theorem dX5_init_14 : decode cX5_init 14 = .ok (.istore_n 1, 1) := by decide +kernel
theorem dX5_init_15 : decode cX5_init 15 = .ok (.iload_n 1, 1) := by decide +kernel
theorem dX5_init_16 : decode cX5_init 16 = .ok (.bipush 20, 2) := by decide +kernel
theorem dX5_init_18 : decode cX5_init 18 = .ok (.if_icmp .ge 22, 3) := by decide +kernel
theorem dX5_init_21 : decode cX5_init 21 = .ok (.aload_n 0, 1) := by decide +kernel
theorem dX5_init_22 : decode cX5_init 22 = .ok (.getfield 11, 3) := by decide +kernel
theorem dX5_init_25 : decode cX5_init 25 = .ok (.iload_n 1, 1) := by decide +kernel
theorem dX5_init_26 : decode cX5_init 26 = .ok (.new 9, 3) := by decide +kernel
theorem dX5_init_29 : decode cX5_init 29 = .ok (.dup, 1) := by decide +kernel
theorem dX5_init_30 : decode cX5_init 30 = .ok (.invokespecial 15, 3) := by decide +kernel
theorem dX5_init_33 : decode cX5_init 33 = .ok (.aastore, 1) := by decide +kernel
theorem dX5_init_34 : decode cX5_init 34 = .ok (.iinc 1 1, 3) := by decide +kernel
theorem dX5_init_37 : decode cX5_init 37 = .ok (.goto (-22), 3) := by decide +kernel
theorem dX5_init_40 : decode cX5_init 40 = .ok (.return_, 1) := by decide +kernel
theorem dX5_forget_0 : decode cX5_forget 0 = .ok (.aload_n 0, 1) := by decide +kernel
theorem dX5_forget_1 : decode cX5_forget 1 = .ok (.iconst 0, 1) := by decide +kernel
theorem dX5_forget_2 : decode cX5_forget 2 = .ok (.putfield 16, 3) := by decide +kernel
theorem dX5_forget_5 : decode cX5_forget 5 = .ok (.aload_n 0, 1) := by decide +kernel
theorem dX5_forget_6 : decode cX5_forget 6 = .ok (.iconst 0, 1) := by decide +kernel
theorem dX5_forget_7 : decode cX5_forget 7 = .ok (.putfield 20, 3) := by decide +kernel
theorem dX5_forget_10 : decode cX5_forget 10 = .ok (.return_, 1) := by decide +kernel
theorem dX5_push_0 : decode cX5_push 0 = .ok (.aload_n 0, 1) := by decide +kernel
theorem dX5_push_1 : decode cX5_push 1 = .ok (.getfield 11, 3) := by decide +kernel
theorem dX5_push_4 : decode cX5_push 4 = .ok (.aload_n 0, 1) := by decide +kernel
theorem dX5_push_5 : decode cX5_push 5 = .ok (.getfield 16, 3) := by decide +kernel
theorem dX5_push_8 : decode cX5_push 8 = .ok (.aload_n 0, 1) := by decide +kernel
theorem dX5_push_9 : decode cX5_push 9 = .ok (.getfield 20, 3) := by decide +kernel
theorem dX5_push_12 : decode cX5_push 12 = .ok (.iadd, 1) := by decide +kernel
theorem dX5_push_13 : decode cX5_push 13 = .ok (.bipush 20, 2) := by decide +kernel
theorem dX5_push_15 : decode cX5_push 15 = .ok (.irem, 1) := by decide +kernel
theorem dX5_push_16 : decode cX5_push 16 = .ok (.aaload, 1) := by decide +kernel
theorem dX5_push_17 : decode cX5_push 17 = .ok (.aload_n 1, 1) := by decide +kernel
theorem dX5_push_18 : decode cX5_push 18 = .ok (.invokevirtual 23, 3) := by decide +kernel
theorem dX5_push_21 : decode cX5_push 21 = .ok (.aload_n 0, 1) := by decide +kernel
theorem dX5_push_22 : decode cX5_push 22 = .ok (.getfield 20, 3) := by decide +kernel
theorem dX5_push_25 : decode cX5_push 25 = .ok (.bipush 20, 2) := by decide +kernel
theorem dX5_push_27 : decode cX5_push 27 = .ok (.if_icmp .ge 16, 3) := by decide +kernel
theorem dX5_push_30 : decode cX5_push 30 = .ok (.aload_n 0, 1) := by decide +kernel
theorem dX5_push_31 : decode cX5_push 31 = .ok (.dup, 1) := by decide +kernel
theorem dX5_push_32 : decode cX5_push 32 = .ok (.getfield 20, 3) := by decide +kernel
theorem dX5_push_35 : decode cX5_push 35 = .ok (.iconst 1, 1) := by decide +kernel
theorem dX5_push_36 : decode cX5_push 36 = .ok (.iadd, 1) := by decide +kernel
theorem dX5_push_37 : decode cX5_push 37 = .ok (.putfield 20, 3) := by decide +kernel
theorem dX5_push_40 : decode cX5_push 40 = .ok (.goto 16, 3) := by decide +kernel
theorem dX5_push_43 : decode cX5_push 43 = .ok (.aload_n 0, 1) := by decide +kernel
theorem dX5_push_44 : decode cX5_push 44 = .ok (.aload_n 0, 1) := by decide +kernel
theorem dX5_push_45 : decode cX5_push 45 = .ok (.getfield 16, 3) := by decide +kernel
theorem dX5_push_48 : decode cX5_push 48 = .ok (.iconst 1, 1) := by decide +kernel
theorem dX5_push_49 : decode cX5_push 49 = .ok (.iadd, 1) := by decide +kernel
theorem dX5_push_50 : decode cX5_push 50 = .ok (.bipush 20, 2) := by decide +kernel
theorem dX5_push_52 : decode cX5_push 52 = .ok (.irem, 1) := by decide +kernel
theorem dX5_push_53 : decode cX5_push 53 = .ok (.putfield 16, 3) := by decide +kernel
theorem dX5_push_56 : decode cX5_push 56 = .ok (.return_, 1) := by decide +kernel
theorem dX5_popInto_0 : decode cX5_popInto 0 = .ok (.aload_n 0, 1) := by decide +kernel
theorem dX5_popInto_1 : decode cX5_popInto 1 = .ok (.getfield 20, 3) := by decide +kernel
theorem dX5_popInto_4 : decode cX5_popInto 4 = .ok (.ifCond .le 34, 3) := by decide +kernel
theorem dX5_popInto_7 : decode cX5_popInto 7 = .ok (.aload_n 0, 1) := by decide +kernel
theorem dX5_popInto_8 : decode cX5_popInto 8 = .ok (.dup, 1) := by decide +kernel
theorem dX5_popInto_9 : decode cX5_popInto 9 = .ok (.getfield 20, 3) := by decide +kernel
theorem dX5_popInto_12 : decode cX5_popInto 12 = .ok (.iconst 1, 1) := by decide +kernel
theorem dX5_popInto_13 : decode cX5_popInto 13 = .ok (.isub, 1) := by decide +kernel
theorem dX5_popInto_14 : decode cX5_popInto 14 = .ok (.putfield 20, 3) := by decide +kernel
theorem dX5_popInto_17 : decode cX5_popInto 17 = .ok (.aload_n 1, 1) := by decide +kernel
theorem dX5_popInto_18 : decode cX5_popInto 18 = .ok (.aload_n 0, 1) := by decide +kernel
theorem dX5_popInto_19 : decode cX5_popInto 19 = .ok (.getfield 11, 3) := by decide +kernel
theorem dX5_popInto_22 : decode cX5_popInto 22 = .ok (.aload_n 0, 1) := by decide +kernel
theorem dX5_popInto_23 : decode cX5_popInto 23 = .ok (.getfield 16, 3) := by decide +kernel
theorem dX5_popInto_26 : decode cX5_popInto 26 = .ok (.aload_n 0, 1) := by decide +kernel
theorem dX5_popInto_27 : decode cX5_popInto 27 = .ok (.getfield 20, 3) := by decide +kernel
theorem dX5_popInto_30 : decode cX5_popInto 30 = .ok (.iadd, 1) := by decide +kernel
theorem dX5_popInto_31 : decode cX5_popInto 31 = .ok (.bipush 20, 2) := by decide +kernel
theorem dX5_popInto_33 : decode cX5_popInto 33 = .ok (.irem, 1) := by decide +kernel
theorem dX5_popInto_34 : decode cX5_popInto 34 = .ok (.aaload, 1) := by decide +kernel
theorem dX5_popInto_35 : decode cX5_popInto 35 = .ok (.invokevirtual 23, 3) := by decide +kernel
theorem dX5_popInto_38 : decode cX5_popInto 38 = .ok (.return_, 1) := by decide +kernel
theorem dX6_init_0 : decode cX6_init 0 = .ok (.aload_n 0, 1) := by decide +kernel
theorem dX6_init_1 : decode cX6_init 1 = .ok (.invokespecial 3, 3) := by decide +kernel
theorem dX6_init_4 : decode cX6_init 4 = .ok (.aload_n 0, 1) := by decide +kernel
theorem dX6_init_5 : decode cX6_init 5 = .ok (.bipush 6, 2) := by decide +kernel
theorem dX6_init_7 : decode cX6_init 7 = .ok (.newarray .int, 2) := by decide +kernel
theorem dX6_init_9 : decode cX6_init 9 = .ok (.putfield 11, 3) := by decide +kernel
theorem dX6_init_12 : decode cX6_init 12 = .ok (.aload_n 0, 1) := by decide +kernel
theorem dX6_init_13 : decode cX6_init 13 = .ok (.bipush 6, 2) := by decide +kernel
theorem dX6_init_15 : decode cX6_init 15 = .ok (.bipush 6, 2) := by decide +kernel
theorem dX6_init_17 : decode cX6_init 17 = .ok (.multianewarray 15 2, 4) := by decide +kernel
theorem dX6_init_21 : decode cX6_init 21 = .ok (.putfield 17, 3) := by decide +kernel
theorem dX6_init_24 : decode cX6_init 24 = .ok (.aload_n 0, 1) := by decide +kernel
theorem dX6_init_25 : decode cX6_init 25 = .ok (.bipush 64, 2) := by decide +kernel
theorem dX6_init_27 : decode cX6_init 27 = .ok (.newarray .int, 2) := by decide +kernel
theorem dX6_init_29 : decode cX6_init 29 = .ok (.putfield 20, 3) := by decide +kernel
theorem dX6_init_32 : decode cX6_init 32 = .ok (.return_, 1) := by decide +kernel
theorem dX6_plan_0 : decode cX6_plan 0 = .ok (.aload_n 0, 1) := by decide +kernel
theorem dX6_plan_1 : decode cX6_plan 1 = .ok (.iconst 0, 1) := by decide +kernel
theorem dX6_plan_2 : decode cX6_plan 2 = .ok (.putfield 23, 3) := by decide +kernel
theorem dX6_plan_5 : decode cX6_plan 5 = .ok (.iconst 0, 1) := by decide +kernel
theorem dX6_plan_6 : decode cX6_plan 6 = .ok (.istore 5, 2) := by decide +kernel
theorem dX6_plan_8 : decode cX6_plan 8 = .ok (.iload 5, 2) := by decide +kernel
theorem dX6_plan_10 : decode cX6_plan 10 = .ok (.aload_n 1, 1) := by decide +kernel
theorem dX6_plan_11 : decode cX6_plan 11 = .ok (.getfield 27, 3) := by decide +kernel
theorem dX6_plan_14 : decode cX6_plan 14 = .ok (.getfield 33, 3) := by decide +kernel
theorem dX6_plan_17 : decode cX6_plan 17 = .ok (.if_icmp .ge 69, 3) := by decide +kernel
theorem dX6_plan_20 : decode cX6_plan 20 = .ok (.aload_n 0, 1) := by decide +kernel
theorem dX6_plan_21 : decode cX6_plan 21 = .ok (.getfield 23, 3) := by decide +kernel
theorem dX6_plan_24 : decode cX6_plan 24 = .ok (.bipush 6, 2) := by decide +kernel
theorem dX6_plan_26 : decode cX6_plan 26 = .ok (.if_icmp .ge 60, 3) := by decide +kernel
theorem dX6_plan_29 : decode cX6_plan 29 = .ok (.aload_n 1, 1) := by decide +kernel
theorem dX6_plan_30 : decode cX6_plan 30 = .ok (.getfield 27, 3) := by decide +kernel
theorem dX6_plan_33 : decode cX6_plan 33 = .ok (.getfield 36, 3) := by decide +kernel
theorem dX6_plan_36 : decode cX6_plan 36 = .ok (.iload 5, 2) := by decide +kernel
theorem dX6_plan_38 : decode cX6_plan 38 = .ok (.iaload, 1) := by decide +kernel
theorem dX6_plan_39 : decode cX6_plan 39 = .ok (.iload_n 3, 1) := by decide +kernel
theorem dX6_plan_40 : decode cX6_plan 40 = .ok (.if_icmp .ne 40, 3) := by decide +kernel
theorem dX6_plan_43 : decode cX6_plan 43 = .ok (.aload_n 0, 1) := by decide +kernel
theorem dX6_plan_44 : decode cX6_plan 44 = .ok (.getfield 11, 3) := by decide +kernel
theorem dX6_plan_47 : decode cX6_plan 47 = .ok (.aload_n 0, 1) := by decide +kernel
theorem dX6_plan_48 : decode cX6_plan 48 = .ok (.getfield 23, 3) := by decide +kernel
theorem dX6_plan_51 : decode cX6_plan 51 = .ok (.iload 5, 2) := by decide +kernel
theorem dX6_plan_53 : decode cX6_plan 53 = .ok (.iastore, 1) := by decide +kernel
theorem dX6_plan_54 : decode cX6_plan 54 = .ok (.aload_n 0, 1) := by decide +kernel
theorem dX6_plan_55 : decode cX6_plan 55 = .ok (.aload_n 1, 1) := by decide +kernel
theorem dX6_plan_56 : decode cX6_plan 56 = .ok (.iload 5, 2) := by decide +kernel
theorem dX6_plan_58 : decode cX6_plan 58 = .ok (.aload_n 2, 1) := by decide +kernel
