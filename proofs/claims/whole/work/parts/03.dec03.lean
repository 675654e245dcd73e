theorem dX10_game_52 : decode cX10_game 52 = .ok (.ishl, 1) := by decide +kernel
theorem dX10_game_53 : decode cX10_game 53 = .ok (.if_icmp .ge 8, 3) := by decide +kernel
theorem dX10_game_56 : decode cX10_game 56 = .ok (.iload 4, 2) := by decide +kernel
theorem dX10_game_58 : decode cX10_game 58 = .ok (.ifCond .eq 6, 3) := by decide +kernel
theorem dX10_game_61 : decode cX10_game 61 = .ok (.ldc 78, 2) := by decide +kernel
theorem dX10_game_63 : decode cX10_game 63 = .ok (.ireturn, 1) := by decide +kernel
theorem dX10_game_64 : decode cX10_game 64 = .ok (.aload_n 0, 1) := by decide +kernel
theorem dX10_game_65 : decode cX10_game 65 = .ok (.getfield 39, 3) := by decide +kernel
theorem dX10_game_68 : decode cX10_game 68 = .ok (.iload_n 2, 1) := by decide +kernel
theorem dX10_game_69 : decode cX10_game 69 = .ok (.invokevirtual 224, 3) := by decide +kernel
theorem dX10_game_72 : decode cX10_game 72 = .ok (.aload_n 0, 1) := by decide +kernel
theorem dX10_game_73 : decode cX10_game 73 = .ok (.getfield 39, 3) := by decide +kernel
theorem dX10_game_76 : decode cX10_game 76 = .ok (.iload_n 2, 1) := by decide +kernel
theorem dX10_game_77 : decode cX10_game 77 = .ok (.iload_n 3, 1) := by decide +kernel
theorem dX10_game_78 : decode cX10_game 78 = .ok (.invokevirtual 227, 3) := by decide +kernel
theorem dX10_game_81 : decode cX10_game 81 = .ok (.sipush 1000, 3) := by decide +kernel
theorem dX10_game_84 : decode cX10_game 84 = .ok (.iadd, 1) := by decide +kernel
theorem dX10_game_85 : decode cX10_game 85 = .ok (.ireturn, 1) := by decide +kernel
theorem dX10_order_0 : decode cX10_order 0 = .ok (.iload_n 1, 1) := by decide +kernel
theorem dX10_order_1 : decode cX10_order 1 = .ok (.invokestatic 230, 3) := by decide +kernel
theorem dX10_order_4 : decode cX10_order 4 = .ok (.ifCond .ne 6, 3) := by decide +kernel
theorem dX10_order_7 : decode cX10_order 7 = .ok (.ldc 155, 2) := by decide +kernel
theorem dX10_order_9 : decode cX10_order 9 = .ok (.ireturn, 1) := by decide +kernel
theorem dX10_order_10 : decode cX10_order 10 = .ok (.iload_n 2, 1) := by decide +kernel
theorem dX10_order_11 : decode cX10_order 11 = .ok (.ifCond .lt 9, 3) := by decide +kernel
theorem dX10_order_14 : decode cX10_order 14 = .ok (.iload_n 2, 1) := by decide +kernel
theorem dX10_order_15 : decode cX10_order 15 = .ok (.bipush 40, 2) := by decide +kernel
theorem dX10_order_17 : decode cX10_order 17 = .ok (.if_icmp .le 6, 3) := by decide +kernel
theorem dX10_order_20 : decode cX10_order 20 = .ok (.ldc 78, 2) := by decide +kernel
theorem dX10_order_22 : decode cX10_order 22 = .ok (.ireturn, 1) := by decide +kernel
theorem dX10_order_23 : decode cX10_order 23 = .ok (.aload_n 0, 1) := by decide +kernel
theorem dX10_order_24 : decode cX10_order 24 = .ok (.getfield 70, 3) := by decide +kernel
theorem dX10_order_27 : decode cX10_order 27 = .ok (.getfield 104, 3) := by decide +kernel
theorem dX10_order_30 : decode cX10_order 30 = .ok (.iload_n 1, 1) := by decide +kernel
theorem dX10_order_31 : decode cX10_order 31 = .ok (.invokevirtual 199, 3) := by decide +kernel
theorem dX10_order_34 : decode cX10_order 34 = .ok (.bipush 6, 2) := by decide +kernel
theorem dX10_order_36 : decode cX10_order 36 = .ok (.if_icmp .le 6, 3) := by decide +kernel
theorem dX10_order_39 : decode cX10_order 39 = .ok (.ldc 189, 2) := by decide +kernel
theorem dX10_order_41 : decode cX10_order 41 = .ok (.ireturn, 1) := by decide +kernel
theorem dX10_order_42 : decode cX10_order 42 = .ok (.aload_n 0, 1) := by decide +kernel
theorem dX10_order_43 : decode cX10_order 43 = .ok (.getfield 46, 3) := by decide +kernel
theorem dX10_order_46 : decode cX10_order 46 = .ok (.aload_n 0, 1) := by decide +kernel
theorem dX10_order_47 : decode cX10_order 47 = .ok (.getfield 70, 3) := by decide +kernel
theorem dX10_order_50 : decode cX10_order 50 = .ok (.aload_n 0, 1) := by decide +kernel
theorem dX10_order_51 : decode cX10_order 51 = .ok (.getfield 19, 3) := by decide +kernel
theorem dX10_order_54 : decode cX10_order 54 = .ok (.iload_n 1, 1) := by decide +kernel
theorem dX10_order_55 : decode cX10_order 55 = .ok (.iload_n 2, 1) := by decide +kernel
theorem dX10_order_56 : decode cX10_order 56 = .ok (.invokevirtual 234, 3) := by decide +kernel
theorem dX10_order_59 : decode cX10_order 59 = .ok (.iload_n 3, 1) := by decide +kernel
theorem dX10_order_60 : decode cX10_order 60 = .ok (.iconst (-1), 1) := by decide +kernel
theorem dX10_order_61 : decode cX10_order 61 = .ok (.if_icmp .ne 13, 3) := by decide +kernel
theorem dX10_order_64 : decode cX10_order 64 = .ok (.aload_n 0, 1) := by decide +kernel
theorem dX10_order_65 : decode cX10_order 65 = .ok (.getfield 46, 3) := by decide +kernel
theorem dX10_order_68 : decode cX10_order 68 = .ok (.invokevirtual 238, 3) := by decide +kernel
theorem dX10_order_71 : decode cX10_order 71 = .ok (.goto 11, 3) := by decide +kernel
theorem dX10_order_74 : decode cX10_order 74 = .ok (.aload_n 0, 1) := by decide +kernel
theorem dX10_order_75 : decode cX10_order 75 = .ok (.getfield 46, 3) := by decide +kernel
theorem dX10_order_78 : decode cX10_order 78 = .ok (.iload_n 3, 1) := by decide +kernel
theorem dX10_order_79 : decode cX10_order 79 = .ok (.invokevirtual 242, 3) := by decide +kernel
theorem dX10_order_82 : decode cX10_order 82 = .ok (.ireturn, 1) := by decide +kernel
theorem dX10_even_0 : decode cX10_even 0 = .ok (.iload_n 1, 1) := by decide +kernel
theorem dX10_even_1 : decode cX10_even 1 = .ok (.ifCond .lt 8, 3) := by decide +kernel
theorem dX10_even_4 : decode cX10_even 4 = .ok (.iload_n 1, 1) := by decide +kernel
theorem dX10_even_5 : decode cX10_even 5 = .ok (.iconst 1, 1) := by decide +kernel
theorem dX10_even_6 : decode cX10_even 6 = .ok (.if_icmp .le 6, 3) := by decide +kernel
theorem dX10_even_9 : decode cX10_even 9 = .ok (.ldc 78, 2) := by decide +kernel
theorem dX10_even_11 : decode cX10_even 11 = .ok (.ireturn, 1) := by decide +kernel
theorem dX10_even_12 : decode cX10_even 12 = .ok (.aload_n 0, 1) := by decide +kernel
theorem dX10_even_13 : decode cX10_even 13 = .ok (.getfield 70, 3) := by decide +kernel
theorem dX10_even_16 : decode cX10_even 16 = .ok (.getfield 104, 3) := by decide +kernel
theorem dX10_even_19 : decode cX10_even 19 = .ok (.iconst 0, 1) := by decide +kernel
theorem dX10_even_20 : decode cX10_even 20 = .ok (.invokevirtual 245, 3) := by decide +kernel
theorem dX10_even_23 : decode cX10_even 23 = .ok (.aload_n 0, 1) := by decide +kernel
theorem dX10_even_24 : decode cX10_even 24 = .ok (.getfield 70, 3) := by decide +kernel
theorem dX10_even_27 : decode cX10_even 27 = .ok (.getfield 104, 3) := by decide +kernel
theorem dX10_even_30 : decode cX10_even 30 = .ok (.iconst 1, 1) := by decide +kernel
theorem dX10_even_31 : decode cX10_even 31 = .ok (.invokevirtual 245, 3) := by decide +kernel
theorem dX10_even_34 : decode cX10_even 34 = .ok (.isub, 1) := by decide +kernel
theorem dX10_even_35 : decode cX10_even 35 = .ok (.istore_n 2, 1) := by decide +kernel
theorem dX10_even_36 : decode cX10_even 36 = .ok (.iload_n 1, 1) := by decide +kernel
theorem dX10_even_37 : decode cX10_even 37 = .ok (.iconst 1, 1) := by decide +kernel
theorem dX10_even_38 : decode cX10_even 38 = .ok (.if_icmp .ne 8, 3) := by decide +kernel
theorem dX10_even_41 : decode cX10_even 41 = .ok (.iload_n 2, 1) := by decide +kernel
theorem dX10_even_42 : decode cX10_even 42 = .ok (.invokestatic 248, 3) := by decide +kernel
theorem dX10_even_45 : decode cX10_even 45 = .ok (.ireturn, 1) := by decide +kernel
theorem dX10_even_46 : decode cX10_even 46 = .ok (.iload_n 2, 1) := by decide +kernel
theorem dX10_even_47 : decode cX10_even 47 = .ok (.ifCond .ne 5, 3) := by decide +kernel
theorem dX10_even_50 : decode cX10_even 50 = .ok (.iconst (-1), 1) := by decide +kernel
theorem dX10_even_51 : decode cX10_even 51 = .ok (.ireturn, 1) := by decide +kernel
theorem dX10_even_52 : decode cX10_even 52 = .ok (.iload_n 2, 1) := by decide +kernel
theorem dX10_even_53 : decode cX10_even 53 = .ok (.ifCond .ge 7, 3) := by decide +kernel
theorem dX10_even_56 : decode cX10_even 56 = .ok (.iconst 0, 1) := by decide +kernel
theorem dX10_even_57 : decode cX10_even 57 = .ok (.goto 4, 3) := by decide +kernel
theorem dX10_even_60 : decode cX10_even 60 = .ok (.iconst 1, 1) := by decide +kernel
theorem dX10_even_61 : decode cX10_even 61 = .ok (.ireturn, 1) := by decide +kernel
theorem dX10_silence_0 : decode cX10_silence 0 = .ok (.aload_n 0, 1) := by decide +kernel
theorem dX10_silence_1 : decode cX10_silence 1 = .ok (.iload_n 1, 1) := by decide +kernel
theorem dX10_silence_2 : decode cX10_silence 2 = .ok (.iload_n 2, 1) := by decide +kernel
theorem dX10_silence_3 : decode cX10_silence 3 = .ok (.invokevirtual 182, 3) := by decide +kernel
theorem dX10_silence_6 : decode cX10_silence 6 = .ok (.ifCond .ne 6, 3) := by decide +kernel
theorem dX10_silence_9 : decode cX10_silence 9 = .ok (.ldc 155, 2) := by decide +kernel
theorem dX10_silence_11 : decode cX10_silence 11 = .ok (.ireturn, 1) := by decide +kernel
theorem dX10_silence_12 : decode cX10_silence 12 = .ok (.iconst 0, 1) := by decide +kernel
theorem dX10_silence_13 : decode cX10_silence 13 = .ok (.istore_n 3, 1) := by decide +kernel
theorem dX10_silence_14 : decode cX10_silence 14 = .ok (.iconst 0, 1) := by decide +kernel
theorem dX10_silence_15 : decode cX10_silence 15 = .ok (.istore 4, 2) := by decide +kernel
theorem dX10_silence_17 : decode cX10_silence 17 = .ok (.iload 4, 2) := by decide +kernel
theorem dX10_silence_19 : decode cX10_silence 19 = .ok (.iconst 4, 1) := by decide +kernel
theorem dX10_silence_20 : decode cX10_silence 20 = .ok (.if_icmp .ge 86, 3) := by decide +kernel
theorem dX10_silence_23 : decode cX10_silence 23 = .ok (.aload_n 0, 1) := by decide +kernel
theorem dX10_silence_24 : decode cX10_silence 24 = .ok (.iconst 0, 1) := by decide +kernel
theorem dX10_silence_25 : decode cX10_silence 25 = .ok (.iload 4, 2) := by decide +kernel
theorem dX10_silence_27 : decode cX10_silence 27 = .ok (.iload_n 1, 1) := by decide +kernel
theorem dX10_silence_28 : decode cX10_silence 28 = .ok (.iload_n 2, 1) := by decide +kernel
theorem dX10_silence_29 : decode cX10_silence 29 = .ok (.invokevirtual 253, 3) := by decide +kernel
theorem dX10_silence_32 : decode cX10_silence 32 = .ok (.aload_n 0, 1) := by decide +kernel
theorem dX10_silence_33 : decode cX10_silence 33 = .ok (.iconst 0, 1) := by decide +kernel
theorem dX10_silence_34 : decode cX10_silence 34 = .ok (.iload 4, 2) := by decide +kernel
theorem dX10_silence_36 : decode cX10_silence 36 = .ok (.iconst 1, 1) := by decide +kernel
theorem dX10_silence_37 : decode cX10_silence 37 = .ok (.ixor, 1) := by decide +kernel
theorem dX10_silence_38 : decode cX10_silence 38 = .ok (.iload_n 1, 1) := by decide +kernel
theorem dX10_silence_39 : decode cX10_silence 39 = .ok (.iload_n 2, 1) := by decide +kernel
theorem dX10_silence_40 : decode cX10_silence 40 = .ok (.invokevirtual 253, 3) := by decide +kernel
theorem dX10_silence_43 : decode cX10_silence 43 = .ok (.if_icmp .lt 7, 3) := by decide +kernel
theorem dX10_silence_46 : decode cX10_silence 46 = .ok (.iconst 1, 1) := by decide +kernel
theorem dX10_silence_47 : decode cX10_silence 47 = .ok (.goto 4, 3) := by decide +kernel
theorem dX10_silence_50 : decode cX10_silence 50 = .ok (.iconst 0, 1) := by decide +kernel
theorem dX10_silence_51 : decode cX10_silence 51 = .ok (.istore 5, 2) := by decide +kernel
theorem dX10_silence_53 : decode cX10_silence 53 = .ok (.aload_n 0, 1) := by decide +kernel
theorem dX10_silence_54 : decode cX10_silence 54 = .ok (.iconst 1, 1) := by decide +kernel
theorem dX10_silence_55 : decode cX10_silence 55 = .ok (.iload 4, 2) := by decide +kernel
theorem dX10_silence_57 : decode cX10_silence 57 = .ok (.iload_n 1, 1) := by decide +kernel
theorem dX10_silence_58 : decode cX10_silence 58 = .ok (.iload_n 2, 1) := by decide +kernel
theorem dX10_silence_59 : decode cX10_silence 59 = .ok (.invokevirtual 253, 3) := by decide +kernel
theorem dX10_silence_62 : decode cX10_silence 62 = .ok (.aload_n 0, 1) := by decide +kernel
theorem dX10_silence_63 : decode cX10_silence 63 = .ok (.iconst 1, 1) := by decide +kernel
theorem dX10_silence_64 : decode cX10_silence 64 = .ok (.iload 4, 2) := by decide +kernel
theorem dX10_silence_66 : decode cX10_silence 66 = .ok (.iconst 2, 1) := by decide +kernel
theorem dX10_silence_67 : decode cX10_silence 67 = .ok (.ixor, 1) := by decide +kernel
theorem dX10_silence_68 : decode cX10_silence 68 = .ok (.iload_n 1, 1) := by decide +kernel
theorem dX10_silence_69 : decode cX10_silence 69 = .ok (.iload_n 2, 1) := by decide +kernel
theorem dX10_silence_70 : decode cX10_silence 70 = .ok (.invokevirtual 253, 3) := by decide +kernel
theorem dX10_silence_73 : decode cX10_silence 73 = .ok (.if_icmp .lt 7, 3) := by decide +kernel
theorem dX10_silence_76 : decode cX10_silence 76 = .ok (.iconst 1, 1) := by decide +kernel
theorem dX10_silence_77 : decode cX10_silence 77 = .ok (.goto 4, 3) := by decide +kernel
theorem dX10_silence_80 : decode cX10_silence 80 = .ok (.iconst 0, 1) := by decide +kernel
theorem dX10_silence_81 : decode cX10_silence 81 = .ok (.istore 6, 2) := by decide +kernel
theorem dX10_silence_83 : decode cX10_silence 83 = .ok (.iload 5, 2) := by decide +kernel
theorem dX10_silence_85 : decode cX10_silence 85 = .ok (.ifCond .eq 15, 3) := by decide +kernel
theorem dX10_silence_88 : decode cX10_silence 88 = .ok (.iload 6, 2) := by decide +kernel
theorem dX10_silence_90 : decode cX10_silence 90 = .ok (.ifCond .eq 10, 3) := by decide +kernel
theorem dX10_silence_93 : decode cX10_silence 93 = .ok (.iload_n 3, 1) := by decide +kernel
theorem dX10_silence_94 : decode cX10_silence 94 = .ok (.iconst 1, 1) := by decide +kernel
theorem dX10_silence_95 : decode cX10_silence 95 = .ok (.iload 4, 2) := by decide +kernel
theorem dX10_silence_97 : decode cX10_silence 97 = .ok (.ishl, 1) := by decide +kernel
theorem dX10_silence_98 : decode cX10_silence 98 = .ok (.ior, 1) := by decide +kernel
theorem dX10_silence_99 : decode cX10_silence 99 = .ok (.istore_n 3, 1) := by decide +kernel
theorem dX10_silence_100 : decode cX10_silence 100 = .ok (.iinc 4 1, 3) := by decide +kernel
theorem dX10_silence_103 : decode cX10_silence 103 = .ok (.goto (-86), 3) := by decide +kernel
theorem dX10_silence_106 : decode cX10_silence 106 = .ok (.iload_n 3, 1) := by decide +kernel
theorem dX10_silence_107 : decode cX10_silence 107 = .ok (.ireturn, 1) := by decide +kernel
theorem dX10_pick_0 : decode cX10_pick 0 = .ok (.iload_n 1, 1) := by decide +kernel
theorem dX10_pick_1 : decode cX10_pick 1 = .ok (.ifCond .lt 8, 3) := by decide +kernel
theorem dX10_pick_4 : decode cX10_pick 4 = .ok (.iload_n 1, 1) := by decide +kernel
theorem dX10_pick_5 : decode cX10_pick 5 = .ok (.iconst 1, 1) := by decide +kernel
theorem dX10_pick_6 : decode cX10_pick 6 = .ok (.if_icmp .le 6, 3) := by decide +kernel
theorem dX10_pick_9 : decode cX10_pick 9 = .ok (.ldc 78, 2) := by decide +kernel
theorem dX10_pick_11 : decode cX10_pick 11 = .ok (.ireturn, 1) := by decide +kernel
theorem dX10_pick_12 : decode cX10_pick 12 = .ok (.aload_n 0, 1) := by decide +kernel
theorem dX10_pick_13 : decode cX10_pick 13 = .ok (.getfield 70, 3) := by decide +kernel
theorem dX10_pick_16 : decode cX10_pick 16 = .ok (.getfield 104, 3) := by decide +kernel
theorem dX10_pick_19 : decode cX10_pick 19 = .ok (.invokevirtual 257, 3) := by decide +kernel
theorem dX10_pick_22 : decode cX10_pick 22 = .ok (.istore_n 2, 1) := by decide +kernel
theorem dX10_pick_23 : decode cX10_pick 23 = .ok (.iload_n 1, 1) := by decide +kernel
theorem dX10_pick_24 : decode cX10_pick 24 = .ok (.ifCond .ne 7, 3) := by decide +kernel
theorem dX10_pick_27 : decode cX10_pick 27 = .ok (.iload_n 2, 1) := by decide +kernel
theorem dX10_pick_28 : decode cX10_pick 28 = .ok (.goto 14, 3) := by decide +kernel
theorem dX10_pick_31 : decode cX10_pick 31 = .ok (.aload_n 0, 1) := by decide +kernel
theorem dX10_pick_32 : decode cX10_pick 32 = .ok (.getfield 70, 3) := by decide +kernel
theorem dX10_pick_35 : decode cX10_pick 35 = .ok (.getfield 104, 3) := by decide +kernel
theorem dX10_pick_38 : decode cX10_pick 38 = .ok (.iload_n 2, 1) := by decide +kernel
theorem dX10_pick_39 : decode cX10_pick 39 = .ok (.invokevirtual 260, 3) := by decide +kernel
theorem dX10_pick_42 : decode cX10_pick 42 = .ok (.ireturn, 1) := by decide +kernel
theorem dX10_coughs_0 : decode cX10_coughs 0 = .ok (.iload_n 1, 1) := by decide +kernel
theorem dX10_coughs_1 : decode cX10_coughs 1 = .ok (.ifCond .lt 19, 3) := by decide +kernel
theorem dX10_coughs_4 : decode cX10_coughs 4 = .ok (.iload_n 1, 1) := by decide +kernel
theorem dX10_coughs_5 : decode cX10_coughs 5 = .ok (.iconst 1, 1) := by decide +kernel
theorem dX10_coughs_6 : decode cX10_coughs 6 = .ok (.aload_n 0, 1) := by decide +kernel
theorem dX10_coughs_7 : decode cX10_coughs 7 = .ok (.getfield 70, 3) := by decide +kernel
theorem dX10_coughs_10 : decode cX10_coughs 10 = .ok (.getfield 104, 3) := by decide +kernel
theorem dX10_coughs_13 : decode cX10_coughs 13 = .ok (.getfield 125, 3) := by decide +kernel
theorem dX10_coughs_16 : decode cX10_coughs 16 = .ok (.ishl, 1) := by decide +kernel
theorem dX10_coughs_17 : decode cX10_coughs 17 = .ok (.if_icmp .lt 6, 3) := by decide +kernel
theorem dX10_coughs_20 : decode cX10_coughs 20 = .ok (.ldc 155, 2) := by decide +kernel
theorem dX10_coughs_22 : decode cX10_coughs 22 = .ok (.ireturn, 1) := by decide +kernel
theorem dX10_coughs_23 : decode cX10_coughs 23 = .ok (.aload_n 0, 1) := by decide +kernel
theorem dX10_coughs_24 : decode cX10_coughs 24 = .ok (.getfield 70, 3) := by decide +kernel
theorem dX10_coughs_27 : decode cX10_coughs 27 = .ok (.getfield 104, 3) := by decide +kernel
theorem dX10_coughs_30 : decode cX10_coughs 30 = .ok (.iload_n 1, 1) := by decide +kernel
theorem dX10_coughs_31 : decode cX10_coughs 31 = .ok (.invokevirtual 263, 3) := by decide +kernel
theorem dX10_coughs_34 : decode cX10_coughs 34 = .ok (.ireturn, 1) := by decide +kernel
theorem dX10_keepBack_0 : decode cX10_keepBack 0 = .ok (.iload_n 1, 1) := by decide +kernel
theorem dX10_keepBack_1 : decode cX10_keepBack 1 = .ok (.invokestatic 230, 3) := by decide +kernel
theorem dX10_keepBack_4 : decode cX10_keepBack 4 = .ok (.ifCond .ne 6, 3) := by decide +kernel
theorem dX10_keepBack_7 : decode cX10_keepBack 7 = .ok (.ldc 155, 2) := by decide +kernel
theorem dX10_keepBack_9 : decode cX10_keepBack 9 = .ok (.ireturn, 1) := by decide +kernel
theorem dX10_keepBack_10 : decode cX10_keepBack 10 = .ok (.aload_n 0, 1) := by decide +kernel
theorem dX10_keepBack_11 : decode cX10_keepBack 11 = .ok (.getfield 70, 3) := by decide +kernel
theorem dX10_keepBack_14 : decode cX10_keepBack 14 = .ok (.getfield 104, 3) := by decide +kernel
theorem dX10_keepBack_17 : decode cX10_keepBack 17 = .ok (.iload_n 1, 1) := by decide +kernel
theorem dX10_keepBack_18 : decode cX10_keepBack 18 = .ok (.invokevirtual 266, 3) := by decide +kernel
theorem dX10_keepBack_21 : decode cX10_keepBack 21 = .ok (.ireturn, 1) := by decide +kernel
theorem dX10_mark_0 : decode cX10_mark 0 = .ok (.iload_n 1, 1) := by decide +kernel
theorem dX10_mark_1 : decode cX10_mark 1 = .ok (.bipush (-99), 2) := by decide +kernel
theorem dX10_mark_3 : decode cX10_mark 3 = .ok (.if_icmp .lt 9, 3) := by decide +kernel
theorem dX10_mark_6 : decode cX10_mark 6 = .ok (.iload_n 1, 1) := by decide +kernel
theorem dX10_mark_7 : decode cX10_mark 7 = .ok (.bipush 99, 2) := by decide +kernel
theorem dX10_mark_9 : decode cX10_mark 9 = .ok (.if_icmp .le 6, 3) := by decide +kernel
theorem dX10_mark_12 : decode cX10_mark 12 = .ok (.ldc 78, 2) := by decide +kernel
theorem dX10_mark_14 : decode cX10_mark 14 = .ok (.ireturn, 1) := by decide +kernel
theorem dX10_mark_15 : decode cX10_mark 15 = .ok (.aload_n 0, 1) := by decide +kernel
theorem dX10_mark_16 : decode cX10_mark 16 = .ok (.getfield 112, 3) := by decide +kernel
theorem dX10_mark_19 : decode cX10_mark 19 = .ok (.bipush 8, 2) := by decide +kernel
theorem dX10_mark_21 : decode cX10_mark 21 = .ok (.if_icmp .lt 6, 3) := by decide +kernel
theorem dX10_mark_24 : decode cX10_mark 24 = .ok (.ldc 83, 2) := by decide +kernel
theorem dX10_mark_26 : decode cX10_mark 26 = .ok (.ireturn, 1) := by decide +kernel
theorem dX10_mark_27 : decode cX10_mark 27 = .ok (.aload_n 0, 1) := by decide +kernel
theorem dX10_mark_28 : decode cX10_mark 28 = .ok (.getfield 50, 3) := by decide +kernel
theorem dX10_mark_31 : decode cX10_mark 31 = .ok (.aload_n 0, 1) := by decide +kernel
theorem dX10_mark_32 : decode cX10_mark 32 = .ok (.getfield 112, 3) := by decide +kernel
theorem dX10_mark_35 : decode cX10_mark 35 = .ok (.iload_n 1, 1) := by decide +kernel
theorem dX10_mark_36 : decode cX10_mark 36 = .ok (.iastore, 1) := by decide +kernel
theorem dX10_mark_37 : decode cX10_mark 37 = .ok (.aload_n 0, 1) := by decide +kernel
theorem dX10_mark_38 : decode cX10_mark 38 = .ok (.dup, 1) := by decide +kernel
theorem dX10_mark_39 : decode cX10_mark 39 = .ok (.getfield 112, 3) := by decide +kernel
theorem dX10_mark_42 : decode cX10_mark 42 = .ok (.iconst 1, 1) := by decide +kernel
theorem dX10_mark_43 : decode cX10_mark 43 = .ok (.iadd, 1) := by decide +kernel
theorem dX10_mark_44 : decode cX10_mark 44 = .ok (.putfield 112, 3) := by decide +kernel
theorem dX10_mark_47 : decode cX10_mark 47 = .ok (.aload_n 0, 1) := by decide +kernel
theorem dX10_mark_48 : decode cX10_mark 48 = .ok (.getfield 112, 3) := by decide +kernel
theorem dX10_mark_51 : decode cX10_mark 51 = .ok (.ireturn, 1) := by decide +kernel
theorem dX10_spoke_0 : decode cX10_spoke 0 = .ok (.iload_n 1, 1) := by decide +kernel
theorem dX10_spoke_1 : decode cX10_spoke 1 = .ok (.ifCond .lt 11, 3) := by decide +kernel
theorem dX10_spoke_4 : decode cX10_spoke 4 = .ok (.iload_n 1, 1) := by decide +kernel
theorem dX10_spoke_5 : decode cX10_spoke 5 = .ok (.aload_n 0, 1) := by decide +kernel
theorem dX10_spoke_6 : decode cX10_spoke 6 = .ok (.getfield 112, 3) := by decide +kernel
theorem dX10_spoke_9 : decode cX10_spoke 9 = .ok (.if_icmp .lt 5, 3) := by decide +kernel
theorem dX10_spoke_12 : decode cX10_spoke 12 = .ok (.iconst (-1), 1) := by decide +kernel
theorem dX10_spoke_13 : decode cX10_spoke 13 = .ok (.ireturn, 1) := by decide +kernel
theorem dX10_spoke_14 : decode cX10_spoke 14 = .ok (.iconst 0, 1) := by decide +kernel
theorem dX10_spoke_15 : decode cX10_spoke 15 = .ok (.istore_n 3, 1) := by decide +kernel
theorem dX10_spoke_16 : decode cX10_spoke 16 = .ok (.iconst 0, 1) := by decide +kernel
theorem dX10_spoke_17 : decode cX10_spoke 17 = .ok (.istore 4, 2) := by decide +kernel
theorem dX10_spoke_19 : decode cX10_spoke 19 = .ok (.iload 4, 2) := by decide +kernel
theorem dX10_spoke_21 : decode cX10_spoke 21 = .ok (.aload_n 0, 1) := by decide +kernel
theorem dX10_spoke_22 : decode cX10_spoke 22 = .ok (.getfield 70, 3) := by decide +kernel
theorem dX10_spoke_25 : decode cX10_spoke 25 = .ok (.getfield 104, 3) := by decide +kernel
theorem dX10_spoke_28 : decode cX10_spoke 28 = .ok (.getfield 125, 3) := by decide +kernel
theorem dX10_spoke_31 : decode cX10_spoke 31 = .ok (.if_icmp .ge 81, 3) := by decide +kernel
theorem dX10_spoke_34 : decode cX10_spoke 34 = .ok (.iconst 0, 1) := by decide +kernel
theorem dX10_spoke_35 : decode cX10_spoke 35 = .ok (.istore 5, 2) := by decide +kernel
theorem dX10_spoke_37 : decode cX10_spoke 37 = .ok (.iload 5, 2) := by decide +kernel
theorem dX10_spoke_39 : decode cX10_spoke 39 = .ok (.aload_n 0, 1) := by decide +kernel
theorem dX10_spoke_40 : decode cX10_spoke 40 = .ok (.getfield 70, 3) := by decide +kernel
theorem dX10_spoke_43 : decode cX10_spoke 43 = .ok (.getfield 104, 3) := by decide +kernel
theorem dX10_spoke_46 : decode cX10_spoke 46 = .ok (.getfield 125, 3) := by decide +kernel
theorem dX10_spoke_49 : decode cX10_spoke 49 = .ok (.if_icmp .ge 57, 3) := by decide +kernel
theorem dX10_spoke_52 : decode cX10_spoke 52 = .ok (.aload_n 0, 1) := by decide +kernel
theorem dX10_spoke_53 : decode cX10_spoke 53 = .ok (.iload 4, 2) := by decide +kernel
theorem dX10_spoke_55 : decode cX10_spoke 55 = .ok (.iload 5, 2) := by decide +kernel
theorem dX10_spoke_57 : decode cX10_spoke 57 = .ok (.invokevirtual 182, 3) := by decide +kernel
theorem dX10_spoke_60 : decode cX10_spoke 60 = .ok (.ifCond .eq 40, 3) := by decide +kernel
theorem dX10_spoke_63 : decode cX10_spoke 63 = .ok (.aload_n 0, 1) := by decide +kernel
theorem dX10_spoke_64 : decode cX10_spoke 64 = .ok (.getfield 70, 3) := by decide +kernel
theorem dX10_spoke_67 : decode cX10_spoke 67 = .ok (.iload 4, 2) := by decide +kernel
theorem dX10_spoke_69 : decode cX10_spoke 69 = .ok (.iload 5, 2) := by decide +kernel
theorem dX10_spoke_71 : decode cX10_spoke 71 = .ok (.aload_n 0, 1) := by decide +kernel
theorem dX10_spoke_72 : decode cX10_spoke 72 = .ok (.getfield 50, 3) := by decide +kernel
theorem dX10_spoke_75 : decode cX10_spoke 75 = .ok (.iload_n 1, 1) := by decide +kernel
theorem dX10_spoke_76 : decode cX10_spoke 76 = .ok (.iaload, 1) := by decide +kernel
theorem dX10_spoke_77 : decode cX10_spoke 77 = .ok (.invokevirtual 269, 3) := by decide +kernel
theorem dX10_spoke_80 : decode cX10_spoke 80 = .ok (.ifCond .eq 20, 3) := by decide +kernel
theorem dX10_spoke_83 : decode cX10_spoke 83 = .ok (.iload_n 3, 1) := by decide +kernel
theorem dX10_spoke_84 : decode cX10_spoke 84 = .ok (.iload_n 2, 1) := by decide +kernel
theorem dX10_spoke_85 : decode cX10_spoke 85 = .ok (.if_icmp .ne 12, 3) := by decide +kernel
theorem dX10_spoke_88 : decode cX10_spoke 88 = .ok (.bipush 10, 2) := by decide +kernel
theorem dX10_spoke_90 : decode cX10_spoke 90 = .ok (.iload 4, 2) := by decide +kernel
theorem dX10_spoke_92 : decode cX10_spoke 92 = .ok (.imul, 1) := by decide +kernel
theorem dX10_spoke_93 : decode cX10_spoke 93 = .ok (.iload 5, 2) := by decide +kernel
theorem dX10_spoke_95 : decode cX10_spoke 95 = .ok (.iadd, 1) := by decide +kernel
theorem dX10_spoke_96 : decode cX10_spoke 96 = .ok (.ireturn, 1) := by decide +kernel
theorem dX10_spoke_97 : decode cX10_spoke 97 = .ok (.iinc 3 1, 3) := by decide +kernel
theorem dX10_spoke_100 : decode cX10_spoke 100 = .ok (.iinc 5 1, 3) := by decide +kernel
theorem dX10_spoke_103 : decode cX10_spoke 103 = .ok (.goto (-66), 3) := by decide +kernel
theorem dX10_spoke_106 : decode cX10_spoke 106 = .ok (.iinc 4 1, 3) := by decide +kernel
theorem dX10_spoke_109 : decode cX10_spoke 109 = .ok (.goto (-90), 3) := by decide +kernel
theorem dX10_spoke_112 : decode cX10_spoke 112 = .ok (.iload_n 2, 1) := by decide +kernel
theorem dX10_spoke_113 : decode cX10_spoke 113 = .ok (.iconst (-1), 1) := by decide +kernel
theorem dX10_spoke_114 : decode cX10_spoke 114 = .ok (.if_icmp .ne 7, 3) := by decide +kernel
theorem dX10_spoke_117 : decode cX10_spoke 117 = .ok (.iload_n 3, 1) := by decide +kernel
theorem dX10_spoke_118 : decode cX10_spoke 118 = .ok (.goto 4, 3) := by decide +kernel
theorem dX10_spoke_121 : decode cX10_spoke 121 = .ok (.iconst (-1), 1) := by decide +kernel
theorem dX10_spoke_122 : decode cX10_spoke 122 = .ok (.ireturn, 1) := by decide +kernel
theorem dX10_write_0 : decode cX10_write 0 = .ok (.iload_n 1, 1) := by decide +kernel
theorem dX10_write_1 : decode cX10_write 1 = .ok (.ifCond .lt 24, 3) := by decide +kernel
theorem dX10_write_4 : decode cX10_write 4 = .ok (.iload_n 1, 1) := by decide +kernel
theorem dX10_write_5 : decode cX10_write 5 = .ok (.sipush 999, 3) := by decide +kernel
theorem dX10_write_8 : decode cX10_write 8 = .ok (.if_icmp .gt 17, 3) := by decide +kernel
theorem dX10_write_11 : decode cX10_write 11 = .ok (.iload_n 2, 1) := by decide +kernel
theorem dX10_write_12 : decode cX10_write 12 = .ok (.sipush (-500), 3) := by decide +kernel
theorem dX10_write_15 : decode cX10_write 15 = .ok (.if_icmp .lt 10, 3) := by decide +kernel
theorem dX10_write_18 : decode cX10_write 18 = .ok (.iload_n 2, 1) := by decide +kernel
theorem dX10_write_19 : decode cX10_write 19 = .ok (.sipush 500, 3) := by decide +kernel
theorem dX10_write_22 : decode cX10_write 22 = .ok (.if_icmp .le 6, 3) := by decide +kernel
theorem dX10_write_25 : decode cX10_write 25 = .ok (.ldc 78, 2) := by decide +kernel
theorem dX10_write_27 : decode cX10_write 27 = .ok (.ireturn, 1) := by decide +kernel
theorem dX10_write_28 : decode cX10_write 28 = .ok (.aload_n 0, 1) := by decide +kernel
theorem dX10_write_29 : decode cX10_write 29 = .ok (.getfield 115, 3) := by decide +kernel
theorem dX10_write_32 : decode cX10_write 32 = .ok (.bipush 15, 2) := by decide +kernel
theorem dX10_write_34 : decode cX10_write 34 = .ok (.if_icmp .lt 6, 3) := by decide +kernel
theorem dX10_write_37 : decode cX10_write 37 = .ok (.ldc 83, 2) := by decide +kernel
theorem dX10_write_39 : decode cX10_write 39 = .ok (.ireturn, 1) := by decide +kernel
theorem dX10_write_40 : decode cX10_write 40 = .ok (.aload_n 0, 1) := by decide +kernel
theorem dX10_write_41 : decode cX10_write 41 = .ok (.getfield 54, 3) := by decide +kernel
theorem dX10_write_44 : decode cX10_write 44 = .ok (.aload_n 0, 1) := by decide +kernel
theorem dX10_write_45 : decode cX10_write 45 = .ok (.getfield 115, 3) := by decide +kernel
theorem dX10_write_48 : decode cX10_write 48 = .ok (.iload_n 1, 1) := by decide +kernel
theorem dX10_write_49 : decode cX10_write 49 = .ok (.iastore, 1) := by decide +kernel
theorem dX10_write_50 : decode cX10_write 50 = .ok (.aload_n 0, 1) := by decide +kernel
theorem dX10_write_51 : decode cX10_write 51 = .ok (.getfield 57, 3) := by decide +kernel
theorem dX10_write_54 : decode cX10_write 54 = .ok (.aload_n 0, 1) := by decide +kernel
theorem dX10_write_55 : decode cX10_write 55 = .ok (.getfield 115, 3) := by decide +kernel
theorem dX10_write_58 : decode cX10_write 58 = .ok (.iload_n 2, 1) := by decide +kernel
theorem dX10_write_59 : decode cX10_write 59 = .ok (.iastore, 1) := by decide +kernel
theorem dX10_write_60 : decode cX10_write 60 = .ok (.aload_n 0, 1) := by decide +kernel
theorem dX10_write_61 : decode cX10_write 61 = .ok (.dup, 1) := by decide +kernel
theorem dX10_write_62 : decode cX10_write 62 = .ok (.getfield 115, 3) := by decide +kernel
theorem dX10_write_65 : decode cX10_write 65 = .ok (.iconst 1, 1) := by decide +kernel
theorem dX10_write_66 : decode cX10_write 66 = .ok (.iadd, 1) := by decide +kernel
theorem dX10_write_67 : decode cX10_write 67 = .ok (.putfield 115, 3) := by decide +kernel
theorem dX10_write_70 : decode cX10_write 70 = .ok (.aload_n 0, 1) := by decide +kernel
theorem dX10_write_71 : decode cX10_write 71 = .ok (.getfield 115, 3) := by decide +kernel
theorem dX10_write_74 : decode cX10_write 74 = .ok (.ireturn, 1) := by decide +kernel
theorem dX10_tear_0 : decode cX10_tear 0 = .ok (.aload_n 0, 1) := by decide +kernel
theorem dX10_tear_1 : decode cX10_tear 1 = .ok (.getfield 112, 3) := by decide +kernel
theorem dX10_tear_4 : decode cX10_tear 4 = .ok (.aload_n 0, 1) := by decide +kernel
theorem dX10_tear_5 : decode cX10_tear 5 = .ok (.getfield 115, 3) := by decide +kernel
theorem dX10_tear_8 : decode cX10_tear 8 = .ok (.iadd, 1) := by decide +kernel
theorem dX10_tear_9 : decode cX10_tear 9 = .ok (.istore_n 1, 1) := by decide +kernel
theorem dX10_tear_10 : decode cX10_tear 10 = .ok (.aload_n 0, 1) := by decide +kernel
theorem dX10_tear_11 : decode cX10_tear 11 = .ok (.iconst 0, 1) := by decide +kernel
theorem dX10_tear_12 : decode cX10_tear 12 = .ok (.putfield 112, 3) := by decide +kernel
theorem dX10_tear_15 : decode cX10_tear 15 = .ok (.aload_n 0, 1) := by decide +kernel
theorem dX10_tear_16 : decode cX10_tear 16 = .ok (.iconst 0, 1) := by decide +kernel
theorem dX10_tear_17 : decode cX10_tear 17 = .ok (.putfield 115, 3) := by decide +kernel
theorem dX10_tear_20 : decode cX10_tear 20 = .ok (.iload_n 1, 1) := by decide +kernel
theorem dX10_tear_21 : decode cX10_tear 21 = .ok (.ireturn, 1) := by decide +kernel
theorem dX10_judge_0 : decode cX10_judge 0 = .ok (.iconst 0, 1) := by decide +kernel
theorem dX10_judge_1 : decode cX10_judge 1 = .ok (.istore_n 1, 1) := by decide +kernel
theorem dX10_judge_2 : decode cX10_judge 2 = .ok (.iload_n 1, 1) := by decide +kernel
theorem dX10_judge_3 : decode cX10_judge 3 = .ok (.aload_n 0, 1) := by decide +kernel
theorem dX10_judge_4 : decode cX10_judge 4 = .ok (.getfield 115, 3) := by decide +kernel
theorem dX10_judge_7 : decode cX10_judge 7 = .ok (.if_icmp .ge 43, 3) := by decide +kernel
theorem dX10_judge_10 : decode cX10_judge 10 = .ok (.aload_n 0, 1) := by decide +kernel
theorem dX10_judge_11 : decode cX10_judge 11 = .ok (.getfield 54, 3) := by decide +kernel
theorem dX10_judge_14 : decode cX10_judge 14 = .ok (.iload_n 1, 1) := by decide +kernel
theorem dX10_judge_15 : decode cX10_judge 15 = .ok (.iaload, 1) := by decide +kernel
theorem dX10_judge_16 : decode cX10_judge 16 = .ok (.aload_n 0, 1) := by decide +kernel
theorem dX10_judge_17 : decode cX10_judge 17 = .ok (.getfield 19, 3) := by decide +kernel
theorem dX10_judge_20 : decode cX10_judge 20 = .ok (.getfield 148, 3) := by decide +kernel
theorem dX10_judge_23 : decode cX10_judge 23 = .ok (.if_icmp .ne 21, 3) := by decide +kernel
theorem dX10_judge_26 : decode cX10_judge 26 = .ok (.aload_n 0, 1) := by decide +kernel
theorem dX10_judge_27 : decode cX10_judge 27 = .ok (.getfield 57, 3) := by decide +kernel
theorem dX10_judge_30 : decode cX10_judge 30 = .ok (.iload_n 1, 1) := by decide +kernel
theorem dX10_judge_31 : decode cX10_judge 31 = .ok (.iaload, 1) := by decide +kernel
theorem dX10_judge_32 : decode cX10_judge 32 = .ok (.aload_n 0, 1) := by decide +kernel
theorem dX10_judge_33 : decode cX10_judge 33 = .ok (.getfield 19, 3) := by decide +kernel
theorem dX10_judge_36 : decode cX10_judge 36 = .ok (.getfield 145, 3) := by decide +kernel
theorem dX10_judge_39 : decode cX10_judge 39 = .ok (.if_icmp .eq 5, 3) := by decide +kernel
theorem dX10_judge_42 : decode cX10_judge 42 = .ok (.iload_n 1, 1) := by decide +kernel
theorem dX10_judge_43 : decode cX10_judge 43 = .ok (.ireturn, 1) := by decide +kernel
theorem dX10_judge_44 : decode cX10_judge 44 = .ok (.iinc 1 1, 3) := by decide +kernel
theorem dX10_judge_47 : decode cX10_judge 47 = .ok (.goto (-45), 3) := by decide +kernel
theorem dX10_judge_50 : decode cX10_judge 50 = .ok (.iconst (-1), 1) := by decide +kernel
theorem dX10_judge_51 : decode cX10_judge 51 = .ok (.ireturn, 1) := by decide +kernel
theorem dX10_seed_0 : decode cX10_seed 0 = .ok (.iload_n 1, 1) := by decide +kernel
theorem dX10_seed_1 : decode cX10_seed 1 = .ok (.ifCond .ge 6, 3) := by decide +kernel
theorem dX10_seed_4 : decode cX10_seed 4 = .ok (.ldc 78, 2) := by decide +kernel
theorem dX10_seed_6 : decode cX10_seed 6 = .ok (.ireturn, 1) := by decide +kernel
theorem dX10_seed_7 : decode cX10_seed 7 = .ok (.aload_n 0, 1) := by decide +kernel
theorem dX10_seed_8 : decode cX10_seed 8 = .ok (.getfield 63, 3) := by decide +kernel
theorem dX10_seed_11 : decode cX10_seed 11 = .ok (.getfield 273, 3) := by decide +kernel
theorem dX10_seed_14 : decode cX10_seed 14 = .ok (.istore_n 2, 1) := by decide +kernel
theorem dX10_seed_15 : decode cX10_seed 15 = .ok (.aload_n 0, 1) := by decide +kernel
theorem dX10_seed_16 : decode cX10_seed 16 = .ok (.getfield 63, 3) := by decide +kernel
theorem dX10_seed_19 : decode cX10_seed 19 = .ok (.iload_n 1, 1) := by decide +kernel
theorem dX10_seed_20 : decode cX10_seed 20 = .ok (.putfield 273, 3) := by decide +kernel
theorem dX10_seed_23 : decode cX10_seed 23 = .ok (.iload_n 2, 1) := by decide +kernel
theorem dX10_seed_24 : decode cX10_seed 24 = .ok (.ireturn, 1) := by decide +kernel
theorem dX10_keep_0 : decode cX10_keep 0 = .ok (.iload_n 1, 1) := by decide +kernel
theorem dX10_keep_1 : decode cX10_keep 1 = .ok (.ifCond .lt 8, 3) := by decide +kernel
theorem dX10_keep_4 : decode cX10_keep 4 = .ok (.iload_n 1, 1) := by decide +kernel
theorem dX10_keep_5 : decode cX10_keep 5 = .ok (.iconst 2, 1) := by decide +kernel
theorem dX10_keep_6 : decode cX10_keep 6 = .ok (.if_icmp .lt 6, 3) := by decide +kernel
theorem dX10_keep_9 : decode cX10_keep 9 = .ok (.ldc 155, 2) := by decide +kernel
theorem dX10_keep_11 : decode cX10_keep 11 = .ok (.ireturn, 1) := by decide +kernel
theorem dX10_keep_12 : decode cX10_keep 12 = .ok (.aload_n 0, 1) := by decide +kernel
theorem dX10_keep_13 : decode cX10_keep 13 = .ok (.getfield 32, 3) := by decide +kernel
theorem dX10_keep_16 : decode cX10_keep 16 = .ok (.iload_n 1, 1) := by decide +kernel
theorem dX10_keep_17 : decode cX10_keep 17 = .ok (.aaload, 1) := by decide +kernel
theorem dX10_keep_18 : decode cX10_keep 18 = .ok (.getfield 276, 3) := by decide +kernel
theorem dX10_keep_21 : decode cX10_keep 21 = .ok (.aload_n 0, 1) := by decide +kernel
theorem dX10_keep_22 : decode cX10_keep 22 = .ok (.getfield 19, 3) := by decide +kernel
theorem dX10_keep_25 : decode cX10_keep 25 = .ok (.invokevirtual 279, 3) := by decide +kernel
theorem dX10_keep_28 : decode cX10_keep 28 = .ok (.aload_n 0, 1) := by decide +kernel
theorem dX10_keep_29 : decode cX10_keep 29 = .ok (.getfield 32, 3) := by decide +kernel
theorem dX10_keep_32 : decode cX10_keep 32 = .ok (.iload_n 1, 1) := by decide +kernel
theorem dX10_keep_33 : decode cX10_keep 33 = .ok (.aaload, 1) := by decide +kernel
theorem dX10_keep_34 : decode cX10_keep 34 = .ok (.aload_n 0, 1) := by decide +kernel
theorem dX10_keep_35 : decode cX10_keep 35 = .ok (.getfield 63, 3) := by decide +kernel
theorem dX10_keep_38 : decode cX10_keep 38 = .ok (.getfield 273, 3) := by decide +kernel
theorem dX10_keep_41 : decode cX10_keep 41 = .ok (.putfield 282, 3) := by decide +kernel
theorem dX10_keep_44 : decode cX10_keep 44 = .ok (.aload_n 0, 1) := by decide +kernel
theorem dX10_keep_45 : decode cX10_keep 45 = .ok (.getfield 32, 3) := by decide +kernel
theorem dX10_keep_48 : decode cX10_keep 48 = .ok (.iload_n 1, 1) := by decide +kernel
theorem dX10_keep_49 : decode cX10_keep 49 = .ok (.aaload, 1) := by decide +kernel
theorem dX10_keep_50 : decode cX10_keep 50 = .ok (.iconst 1, 1) := by decide +kernel
theorem dX10_keep_51 : decode cX10_keep 51 = .ok (.putfield 121, 3) := by decide +kernel
theorem dX10_keep_54 : decode cX10_keep 54 = .ok (.aload_n 0, 1) := by decide +kernel
theorem dX10_keep_55 : decode cX10_keep 55 = .ok (.getfield 26, 3) := by decide +kernel
theorem dX10_keep_58 : decode cX10_keep 58 = .ok (.invokevirtual 118, 3) := by decide +kernel
theorem dX10_keep_61 : decode cX10_keep 61 = .ok (.iconst 1, 1) := by decide +kernel
theorem dX10_keep_62 : decode cX10_keep 62 = .ok (.ireturn, 1) := by decide +kernel
theorem dX10_goBack_0 : decode cX10_goBack 0 = .ok (.iload_n 1, 1) := by decide +kernel
theorem dX10_goBack_1 : decode cX10_goBack 1 = .ok (.ifCond .lt 8, 3) := by decide +kernel
theorem dX10_goBack_4 : decode cX10_goBack 4 = .ok (.iload_n 1, 1) := by decide +kernel
theorem dX10_goBack_5 : decode cX10_goBack 5 = .ok (.iconst 2, 1) := by decide +kernel
theorem dX10_goBack_6 : decode cX10_goBack 6 = .ok (.if_icmp .lt 6, 3) := by decide +kernel
theorem dX10_goBack_9 : decode cX10_goBack 9 = .ok (.ldc 155, 2) := by decide +kernel
theorem dX10_goBack_11 : decode cX10_goBack 11 = .ok (.ireturn, 1) := by decide +kernel
theorem dX10_goBack_12 : decode cX10_goBack 12 = .ok (.aload_n 0, 1) := by decide +kernel
theorem dX10_goBack_13 : decode cX10_goBack 13 = .ok (.getfield 32, 3) := by decide +kernel
theorem dX10_goBack_16 : decode cX10_goBack 16 = .ok (.iload_n 1, 1) := by decide +kernel
theorem dX10_goBack_17 : decode cX10_goBack 17 = .ok (.aaload, 1) := by decide +kernel
theorem dX10_goBack_18 : decode cX10_goBack 18 = .ok (.getfield 121, 3) := by decide +kernel
theorem dX10_goBack_21 : decode cX10_goBack 21 = .ok (.ifCond .ne 6, 3) := by decide +kernel
theorem dX10_goBack_24 : decode cX10_goBack 24 = .ok (.ldc 189, 2) := by decide +kernel
theorem dX10_goBack_26 : decode cX10_goBack 26 = .ok (.ireturn, 1) := by decide +kernel
theorem dX10_goBack_27 : decode cX10_goBack 27 = .ok (.aload_n 0, 1) := by decide +kernel
theorem dX10_goBack_28 : decode cX10_goBack 28 = .ok (.getfield 19, 3) := by decide +kernel
theorem dX10_goBack_31 : decode cX10_goBack 31 = .ok (.aload_n 0, 1) := by decide +kernel
theorem dX10_goBack_32 : decode cX10_goBack 32 = .ok (.getfield 32, 3) := by decide +kernel
theorem dX10_goBack_35 : decode cX10_goBack 35 = .ok (.iload_n 1, 1) := by decide +kernel
theorem dX10_goBack_36 : decode cX10_goBack 36 = .ok (.aaload, 1) := by decide +kernel
theorem dX10_goBack_37 : decode cX10_goBack 37 = .ok (.getfield 276, 3) := by decide +kernel
theorem dX10_goBack_40 : decode cX10_goBack 40 = .ok (.invokevirtual 279, 3) := by decide +kernel
theorem dX10_goBack_43 : decode cX10_goBack 43 = .ok (.aload_n 0, 1) := by decide +kernel
theorem dX10_goBack_44 : decode cX10_goBack 44 = .ok (.getfield 63, 3) := by decide +kernel
theorem dX10_goBack_47 : decode cX10_goBack 47 = .ok (.aload_n 0, 1) := by decide +kernel
theorem dX10_goBack_48 : decode cX10_goBack 48 = .ok (.getfield 32, 3) := by decide +kernel
theorem dX10_goBack_51 : decode cX10_goBack 51 = .ok (.iload_n 1, 1) := by decide +kernel
theorem dX10_goBack_52 : decode cX10_goBack 52 = .ok (.aaload, 1) := by decide +kernel
theorem dX10_goBack_53 : decode cX10_goBack 53 = .ok (.getfield 282, 3) := by decide +kernel
theorem dX10_goBack_56 : decode cX10_goBack 56 = .ok (.putfield 273, 3) := by decide +kernel
theorem dX10_goBack_59 : decode cX10_goBack 59 = .ok (.aload_n 0, 1) := by decide +kernel
theorem dX10_goBack_60 : decode cX10_goBack 60 = .ok (.getfield 26, 3) := by decide +kernel
theorem dX10_goBack_63 : decode cX10_goBack 63 = .ok (.invokevirtual 118, 3) := by decide +kernel
theorem dX10_goBack_66 : decode cX10_goBack 66 = .ok (.iconst 1, 1) := by decide +kernel
theorem dX10_goBack_67 : decode cX10_goBack 67 = .ok (.ireturn, 1) := by decide +kernel
theorem dX10_isSide_0 : decode cX10_isSide 0 = .ok (.iload_n 0, 1) := by decide +kernel
theorem dX10_isSide_1 : decode cX10_isSide 1 = .ok (.ifCond .eq 8, 3) := by decide +kernel
theorem dX10_isSide_4 : decode cX10_isSide 4 = .ok (.iload_n 0, 1) := by decide +kernel
theorem dX10_isSide_5 : decode cX10_isSide 5 = .ok (.iconst 1, 1) := by decide +kernel
theorem dX10_isSide_6 : decode cX10_isSide 6 = .ok (.if_icmp .ne 7, 3) := by decide +kernel
theorem dX10_isSide_9 : decode cX10_isSide 9 = .ok (.iconst 1, 1) := by decide +kernel
theorem dX10_isSide_10 : decode cX10_isSide 10 = .ok (.goto 4, 3) := by decide +kernel
theorem dX10_isSide_13 : decode cX10_isSide 13 = .ok (.iconst 0, 1) := by decide +kernel
theorem dX10_isSide_14 : decode cX10_isSide 14 = .ok (.ireturn, 1) := by decide +kernel
theorem dX10_areOpponents_0 : decode cX10_areOpponents 0 = .ok (.aload_n 0, 1) := by decide +kernel
theorem dX10_areOpponents_1 : decode cX10_areOpponents 1 = .ok (.getfield 70, 3) := by decide +kernel
theorem dX10_areOpponents_4 : decode cX10_areOpponents 4 = .ok (.getfield 104, 3) := by decide +kernel
theorem dX10_areOpponents_7 : decode cX10_areOpponents 7 = .ok (.iconst 0, 1) := by decide +kernel
theorem dX10_areOpponents_8 : decode cX10_areOpponents 8 = .ok (.iload_n 1, 1) := by decide +kernel
theorem dX10_areOpponents_9 : decode cX10_areOpponents 9 = .ok (.invokevirtual 285, 3) := by decide +kernel
theorem dX10_areOpponents_12 : decode cX10_areOpponents 12 = .ok (.ifCond .eq 22, 3) := by decide +kernel
theorem dX10_areOpponents_15 : decode cX10_areOpponents 15 = .ok (.aload_n 0, 1) := by decide +kernel
theorem dX10_areOpponents_16 : decode cX10_areOpponents 16 = .ok (.getfield 70, 3) := by decide +kernel
theorem dX10_areOpponents_19 : decode cX10_areOpponents 19 = .ok (.getfield 104, 3) := by decide +kernel
theorem dX10_areOpponents_22 : decode cX10_areOpponents 22 = .ok (.iconst 1, 1) := by decide +kernel
theorem dX10_areOpponents_23 : decode cX10_areOpponents 23 = .ok (.iload_n 2, 1) := by decide +kernel
theorem dX10_areOpponents_24 : decode cX10_areOpponents 24 = .ok (.invokevirtual 285, 3) := by decide +kernel
theorem dX10_areOpponents_27 : decode cX10_areOpponents 27 = .ok (.ifCond .eq 7, 3) := by decide +kernel
theorem dX10_areOpponents_30 : decode cX10_areOpponents 30 = .ok (.iconst 1, 1) := by decide +kernel
theorem dX10_areOpponents_31 : decode cX10_areOpponents 31 = .ok (.goto 4, 3) := by decide +kernel
theorem dX10_areOpponents_34 : decode cX10_areOpponents 34 = .ok (.iconst 0, 1) := by decide +kernel
theorem dX10_areOpponents_35 : decode cX10_areOpponents 35 = .ok (.ireturn, 1) := by decide +kernel
theorem dX10_maySay_0 : decode cX10_maySay 0 = .ok (.iload_n 2, 1) := by decide +kernel
theorem dX10_maySay_1 : decode cX10_maySay 1 = .ok (.iconst (-1), 1) := by decide +kernel
theorem dX10_maySay_2 : decode cX10_maySay 2 = .ok (.if_icmp .ne 5, 3) := by decide +kernel
theorem dX10_maySay_5 : decode cX10_maySay 5 = .ok (.iconst 1, 1) := by decide +kernel
theorem dX10_maySay_6 : decode cX10_maySay 6 = .ok (.ireturn, 1) := by decide +kernel
theorem dX10_maySay_7 : decode cX10_maySay 7 = .ok (.aload_n 0, 1) := by decide +kernel
theorem dX10_maySay_8 : decode cX10_maySay 8 = .ok (.getfield 70, 3) := by decide +kernel
theorem dX10_maySay_11 : decode cX10_maySay 11 = .ok (.getfield 95, 3) := by decide +kernel
theorem dX10_maySay_14 : decode cX10_maySay 14 = .ok (.iload_n 2, 1) := by decide +kernel
theorem dX10_maySay_15 : decode cX10_maySay 15 = .ok (.invokevirtual 175, 3) := by decide +kernel
theorem dX10_maySay_18 : decode cX10_maySay 18 = .ok (.istore_n 3, 1) := by decide +kernel
theorem dX10_maySay_19 : decode cX10_maySay 19 = .ok (.iload_n 3, 1) := by decide +kernel
theorem dX10_maySay_20 : decode cX10_maySay 20 = .ok (.iconst (-1), 1) := by decide +kernel
theorem dX10_maySay_21 : decode cX10_maySay 21 = .ok (.if_icmp .eq 31, 3) := by decide +kernel
theorem dX10_maySay_24 : decode cX10_maySay 24 = .ok (.iload_n 3, 1) := by decide +kernel
theorem dX10_maySay_25 : decode cX10_maySay 25 = .ok (.aload_n 0, 1) := by decide +kernel
theorem dX10_maySay_26 : decode cX10_maySay 26 = .ok (.getfield 19, 3) := by decide +kernel
theorem dX10_maySay_29 : decode cX10_maySay 29 = .ok (.getfield 168, 3) := by decide +kernel
theorem dX10_maySay_32 : decode cX10_maySay 32 = .ok (.iload_n 1, 1) := by decide +kernel
theorem dX10_maySay_33 : decode cX10_maySay 33 = .ok (.iaload, 1) := by decide +kernel
theorem dX10_maySay_34 : decode cX10_maySay 34 = .ok (.if_icmp .gt 18, 3) := by decide +kernel
theorem dX10_maySay_37 : decode cX10_maySay 37 = .ok (.aload_n 0, 1) := by decide +kernel
theorem dX10_maySay_38 : decode cX10_maySay 38 = .ok (.getfield 19, 3) := by decide +kernel
theorem dX10_maySay_41 : decode cX10_maySay 41 = .ok (.iload_n 2, 1) := by decide +kernel
theorem dX10_maySay_42 : decode cX10_maySay 42 = .ok (.invokevirtual 288, 3) := by decide +kernel
theorem dX10_maySay_45 : decode cX10_maySay 45 = .ok (.ifCond .ne 7, 3) := by decide +kernel
theorem dX10_maySay_48 : decode cX10_maySay 48 = .ok (.iconst 1, 1) := by decide +kernel
theorem dX10_maySay_49 : decode cX10_maySay 49 = .ok (.goto 4, 3) := by decide +kernel
theorem dX10_maySay_52 : decode cX10_maySay 52 = .ok (.iconst 0, 1) := by decide +kernel
theorem dX10_maySay_53 : decode cX10_maySay 53 = .ok (.ireturn, 1) := by decide +kernel
theorem dX10_drawnWord_0 : decode cX10_drawnWord 0 = .ok (.aload_n 0, 1) := by decide +kernel
theorem dX10_drawnWord_1 : decode cX10_drawnWord 1 = .ok (.getfield 63, 3) := by decide +kernel
theorem dX10_drawnWord_4 : decode cX10_drawnWord 4 = .ok (.bipush 100, 2) := by decide +kernel
theorem dX10_drawnWord_6 : decode cX10_drawnWord 6 = .ok (.invokevirtual 202, 3) := by decide +kernel
theorem dX10_drawnWord_9 : decode cX10_drawnWord 9 = .ok (.aload_n 0, 1) := by decide +kernel
theorem dX10_drawnWord_10 : decode cX10_drawnWord 10 = .ok (.getfield 70, 3) := by decide +kernel
theorem dX10_drawnWord_13 : decode cX10_drawnWord 13 = .ok (.getfield 104, 3) := by decide +kernel
theorem dX10_drawnWord_16 : decode cX10_drawnWord 16 = .ok (.getfield 172, 3) := by decide +kernel
theorem dX10_drawnWord_19 : decode cX10_drawnWord 19 = .ok (.iload_n 1, 1) := by decide +kernel
theorem dX10_drawnWord_20 : decode cX10_drawnWord 20 = .ok (.iaload, 1) := by decide +kernel
theorem dX10_drawnWord_21 : decode cX10_drawnWord 21 = .ok (.if_icmp .ge 5, 3) := by decide +kernel
theorem dX10_drawnWord_24 : decode cX10_drawnWord 24 = .ok (.iconst (-1), 1) := by decide +kernel
theorem dX10_drawnWord_25 : decode cX10_drawnWord 25 = .ok (.ireturn, 1) := by decide +kernel
theorem dX10_drawnWord_26 : decode cX10_drawnWord 26 = .ok (.aload_n 0, 1) := by decide +kernel
theorem dX10_drawnWord_27 : decode cX10_drawnWord 27 = .ok (.getfield 70, 3) := by decide +kernel
theorem dX10_drawnWord_30 : decode cX10_drawnWord 30 = .ok (.getfield 95, 3) := by decide +kernel
theorem dX10_drawnWord_33 : decode cX10_drawnWord 33 = .ok (.aload_n 0, 1) := by decide +kernel
theorem dX10_drawnWord_34 : decode cX10_drawnWord 34 = .ok (.getfield 19, 3) := by decide +kernel
theorem dX10_drawnWord_37 : decode cX10_drawnWord 37 = .ok (.getfield 168, 3) := by decide +kernel
theorem dX10_drawnWord_40 : decode cX10_drawnWord 40 = .ok (.iload_n 1, 1) := by decide +kernel
theorem dX10_drawnWord_41 : decode cX10_drawnWord 41 = .ok (.iaload, 1) := by decide +kernel
theorem dX10_drawnWord_42 : decode cX10_drawnWord 42 = .ok (.invokevirtual 215, 3) := by decide +kernel
theorem dX10_drawnWord_45 : decode cX10_drawnWord 45 = .ok (.istore_n 3, 1) := by decide +kernel
theorem dX10_drawnWord_46 : decode cX10_drawnWord 46 = .ok (.iload_n 3, 1) := by decide +kernel
theorem dX10_drawnWord_47 : decode cX10_drawnWord 47 = .ok (.ifCond .ne 5, 3) := by decide +kernel
theorem dX10_drawnWord_50 : decode cX10_drawnWord 50 = .ok (.iconst (-1), 1) := by decide +kernel
theorem dX10_drawnWord_51 : decode cX10_drawnWord 51 = .ok (.ireturn, 1) := by decide +kernel
theorem dX10_drawnWord_52 : decode cX10_drawnWord 52 = .ok (.aload_n 0, 1) := by decide +kernel
theorem dX10_drawnWord_53 : decode cX10_drawnWord 53 = .ok (.getfield 70, 3) := by decide +kernel
theorem dX10_drawnWord_56 : decode cX10_drawnWord 56 = .ok (.getfield 95, 3) := by decide +kernel
theorem dX10_drawnWord_59 : decode cX10_drawnWord 59 = .ok (.getfield 218, 3) := by decide +kernel
theorem dX10_drawnWord_62 : decode cX10_drawnWord 62 = .ok (.iload_n 3, 1) := by decide +kernel
theorem dX10_drawnWord_63 : decode cX10_drawnWord 63 = .ok (.iaload, 1) := by decide +kernel
theorem dX10_drawnWord_64 : decode cX10_drawnWord 64 = .ok (.istore 4, 2) := by decide +kernel
theorem dX10_drawnWord_66 : decode cX10_drawnWord 66 = .ok (.iload 4, 2) := by decide +kernel
theorem dX10_drawnWord_68 : decode cX10_drawnWord 68 = .ok (.iload_n 2, 1) := by decide +kernel
theorem dX10_drawnWord_69 : decode cX10_drawnWord 69 = .ok (.if_icmp .eq 15, 3) := by decide +kernel
theorem dX10_drawnWord_72 : decode cX10_drawnWord 72 = .ok (.aload_n 0, 1) := by decide +kernel
theorem dX10_drawnWord_73 : decode cX10_drawnWord 73 = .ok (.getfield 19, 3) := by decide +kernel
theorem dX10_drawnWord_76 : decode cX10_drawnWord 76 = .ok (.iload 4, 2) := by decide +kernel
theorem dX10_drawnWord_78 : decode cX10_drawnWord 78 = .ok (.invokevirtual 288, 3) := by decide +kernel
theorem dX10_drawnWord_81 : decode cX10_drawnWord 81 = .ok (.ifCond .eq 7, 3) := by decide +kernel
theorem dX10_drawnWord_84 : decode cX10_drawnWord 84 = .ok (.iconst (-1), 1) := by decide +kernel
theorem dX10_drawnWord_85 : decode cX10_drawnWord 85 = .ok (.goto 5, 3) := by decide +kernel
theorem dX10_drawnWord_88 : decode cX10_drawnWord 88 = .ok (.iload 4, 2) := by decide +kernel
theorem dX10_drawnWord_90 : decode cX10_drawnWord 90 = .ok (.ireturn, 1) := by decide +kernel
theorem dX10_gainOf_0 : decode cX10_gainOf 0 = .ok (.iload_n 2, 1) := by decide +kernel
theorem dX10_gainOf_1 : decode cX10_gainOf 1 = .ok (.iconst 1, 1) := by decide +kernel
theorem dX10_gainOf_2 : decode cX10_gainOf 2 = .ok (.iand, 1) := by decide +kernel
theorem dX10_gainOf_3 : decode cX10_gainOf 3 = .ok (.istore 5, 2) := by decide +kernel
theorem dX10_gainOf_5 : decode cX10_gainOf 5 = .ok (.iload_n 2, 1) := by decide +kernel
theorem dX10_gainOf_6 : decode cX10_gainOf 6 = .ok (.iconst 1, 1) := by decide +kernel
theorem dX10_gainOf_7 : decode cX10_gainOf 7 = .ok (.ishr, 1) := by decide +kernel
theorem dX10_gainOf_8 : decode cX10_gainOf 8 = .ok (.iconst 1, 1) := by decide +kernel
theorem dX10_gainOf_9 : decode cX10_gainOf 9 = .ok (.iand, 1) := by decide +kernel
theorem dX10_gainOf_10 : decode cX10_gainOf 10 = .ok (.istore 6, 2) := by decide +kernel
theorem dX10_gainOf_12 : decode cX10_gainOf 12 = .ok (.iload 5, 2) := by decide +kernel
theorem dX10_gainOf_14 : decode cX10_gainOf 14 = .ok (.aload_n 0, 1) := by decide +kernel
theorem dX10_gainOf_15 : decode cX10_gainOf 15 = .ok (.getfield 70, 3) := by decide +kernel
theorem dX10_gainOf_18 : decode cX10_gainOf 18 = .ok (.getfield 95, 3) := by decide +kernel
theorem dX10_gainOf_21 : decode cX10_gainOf 21 = .ok (.aload_n 0, 1) := by decide +kernel
theorem dX10_gainOf_22 : decode cX10_gainOf 22 = .ok (.getfield 19, 3) := by decide +kernel
theorem dX10_gainOf_25 : decode cX10_gainOf 25 = .ok (.getfield 168, 3) := by decide +kernel
theorem dX10_gainOf_28 : decode cX10_gainOf 28 = .ok (.iload_n 3, 1) := by decide +kernel
theorem dX10_gainOf_29 : decode cX10_gainOf 29 = .ok (.iaload, 1) := by decide +kernel
theorem dX10_gainOf_30 : decode cX10_gainOf 30 = .ok (.invokevirtual 215, 3) := by decide +kernel
theorem dX10_gainOf_33 : decode cX10_gainOf 33 = .ok (.imul, 1) := by decide +kernel
theorem dX10_gainOf_34 : decode cX10_gainOf 34 = .ok (.istore 7, 2) := by decide +kernel
theorem dX10_gainOf_36 : decode cX10_gainOf 36 = .ok (.iload 6, 2) := by decide +kernel
theorem dX10_gainOf_38 : decode cX10_gainOf 38 = .ok (.aload_n 0, 1) := by decide +kernel
theorem dX10_gainOf_39 : decode cX10_gainOf 39 = .ok (.getfield 70, 3) := by decide +kernel
theorem dX10_gainOf_42 : decode cX10_gainOf 42 = .ok (.getfield 95, 3) := by decide +kernel
theorem dX10_gainOf_45 : decode cX10_gainOf 45 = .ok (.aload_n 0, 1) := by decide +kernel
theorem dX10_gainOf_46 : decode cX10_gainOf 46 = .ok (.getfield 19, 3) := by decide +kernel
theorem dX10_gainOf_49 : decode cX10_gainOf 49 = .ok (.getfield 168, 3) := by decide +kernel
theorem dX10_gainOf_52 : decode cX10_gainOf 52 = .ok (.iload 4, 2) := by decide +kernel
theorem dX10_gainOf_54 : decode cX10_gainOf 54 = .ok (.iaload, 1) := by decide +kernel
theorem dX10_gainOf_55 : decode cX10_gainOf 55 = .ok (.invokevirtual 215, 3) := by decide +kernel
theorem dX10_gainOf_58 : decode cX10_gainOf 58 = .ok (.imul, 1) := by decide +kernel
theorem dX10_gainOf_59 : decode cX10_gainOf 59 = .ok (.istore 8, 2) := by decide +kernel
theorem dX10_gainOf_61 : decode cX10_gainOf 61 = .ok (.aload_n 0, 1) := by decide +kernel
theorem dX10_gainOf_62 : decode cX10_gainOf 62 = .ok (.getfield 70, 3) := by decide +kernel
theorem dX10_gainOf_65 : decode cX10_gainOf 65 = .ok (.iload_n 3, 1) := by decide +kernel
theorem dX10_gainOf_66 : decode cX10_gainOf 66 = .ok (.iload 7, 2) := by decide +kernel
theorem dX10_gainOf_68 : decode cX10_gainOf 68 = .ok (.iload 4, 2) := by decide +kernel
theorem dX10_gainOf_70 : decode cX10_gainOf 70 = .ok (.iload 8, 2) := by decide +kernel
theorem dX10_gainOf_72 : decode cX10_gainOf 72 = .ok (.invokevirtual 291, 3) := by decide +kernel
theorem dX10_gainOf_75 : decode cX10_gainOf 75 = .ok (.istore 9, 2) := by decide +kernel
theorem dX10_gainOf_77 : decode cX10_gainOf 77 = .ok (.iload_n 1, 1) := by decide +kernel
theorem dX10_gainOf_78 : decode cX10_gainOf 78 = .ok (.ifCond .ne 12, 3) := by decide +kernel
theorem dX10_gainOf_81 : decode cX10_gainOf 81 = .ok (.iload 9, 2) := by decide +kernel
theorem dX10_gainOf_83 : decode cX10_gainOf 83 = .ok (.ineg, 1) := by decide +kernel
theorem dX10_gainOf_84 : decode cX10_gainOf 84 = .ok (.iload 5, 2) := by decide +kernel
theorem dX10_gainOf_86 : decode cX10_gainOf 86 = .ok (.isub, 1) := by decide +kernel
theorem dX10_gainOf_87 : decode cX10_gainOf 87 = .ok (.goto 8, 3) := by decide +kernel
theorem dX10_gainOf_90 : decode cX10_gainOf 90 = .ok (.iload 9, 2) := by decide +kernel
theorem dX10_gainOf_92 : decode cX10_gainOf 92 = .ok (.iload 6, 2) := by decide +kernel
theorem dX10_gainOf_94 : decode cX10_gainOf 94 = .ok (.isub, 1) := by decide +kernel
theorem dX10_gainOf_95 : decode cX10_gainOf 95 = .ok (.ireturn, 1) := by decide +kernel
theorem dX11_init_0 : decode cX11_init 0 = .ok (.aload_n 0, 1) := by decide +kernel
theorem dX11_init_1 : decode cX11_init 1 = .ok (.invokespecial 1, 3) := by decide +kernel
theorem dX11_init_4 : decode cX11_init 4 = .ok (.aload_n 0, 1) := by decide +kernel
theorem dX11_init_5 : decode cX11_init 5 = .ok (.bipush 6, 2) := by decide +kernel
theorem dX11_init_7 : decode cX11_init 7 = .ok (.newarray .int, 2) := by decide +kernel
theorem dX11_init_9 : decode cX11_init 9 = .ok (.putfield 7, 3) := by decide +kernel
theorem dX11_init_12 : decode cX11_init 12 = .ok (.aload_n 0, 1) := by decide +kernel
theorem dX11_init_13 : decode cX11_init 13 = .ok (.iconst 4, 1) := by decide +kernel
theorem dX11_init_14 : decode cX11_init 14 = .ok (.newarray .int, 2) := by decide +kernel
theorem dX11_init_16 : decode cX11_init 16 = .ok (.putfield 13, 3) := by decide +kernel
theorem dX11_init_19 : decode cX11_init 19 = .ok (.aload_n 0, 1) := by decide +kernel
theorem dX11_init_20 : decode cX11_init 20 = .ok (.bipush 10, 2) := by decide +kernel
theorem dX11_init_22 : decode cX11_init 22 = .ok (.newarray .int, 2) := by decide +kernel
theorem dX11_init_24 : decode cX11_init 24 = .ok (.putfield 16, 3) := by decide +kernel
theorem dX11_init_27 : decode cX11_init 27 = .ok (.aload_n 0, 1) := by decide +kernel
theorem dX11_init_28 : decode cX11_init 28 = .ok (.bipush 10, 2) := by decide +kernel
theorem dX11_init_30 : decode cX11_init 30 = .ok (.newarray .int, 2) := by decide +kernel
theorem dX11_init_32 : decode cX11_init 32 = .ok (.putfield 19, 3) := by decide +kernel
theorem dX11_init_35 : decode cX11_init 35 = .ok (.aload_n 0, 1) := by decide +kernel
theorem dX11_init_36 : decode cX11_init 36 = .ok (.bipush 10, 2) := by decide +kernel
theorem dX11_init_38 : decode cX11_init 38 = .ok (.newarray .int, 2) := by decide +kernel
theorem dX11_init_40 : decode cX11_init 40 = .ok (.putfield 22, 3) := by decide +kernel
theorem dX11_init_43 : decode cX11_init 43 = .ok (.aload_n 0, 1) := by decide +kernel
theorem dX11_init_44 : decode cX11_init 44 = .ok (.bipush 10, 2) := by decide +kernel
theorem dX11_init_46 : decode cX11_init 46 = .ok (.newarray .int, 2) := by decide +kernel
theorem dX11_init_48 : decode cX11_init 48 = .ok (.putfield 25, 3) := by decide +kernel
theorem dX11_init_51 : decode cX11_init 51 = .ok (.aload_n 0, 1) := by decide +kernel
theorem dX11_init_52 : decode cX11_init 52 = .ok (.bipush 6, 2) := by decide +kernel
theorem dX11_init_54 : decode cX11_init 54 = .ok (.newarray .int, 2) := by decide +kernel
theorem dX11_init_56 : decode cX11_init 56 = .ok (.putfield 28, 3) := by decide +kernel
theorem dX11_init_59 : decode cX11_init 59 = .ok (.aload_n 0, 1) := by decide +kernel
theorem dX11_init_60 : decode cX11_init 60 = .ok (.bipush 53, 2) := by decide +kernel
theorem dX11_init_62 : decode cX11_init 62 = .ok (.newarray .int, 2) := by decide +kernel
theorem dX11_init_64 : decode cX11_init 64 = .ok (.putfield 31, 3) := by decide +kernel
theorem dX11_init_67 : decode cX11_init 67 = .ok (.aload_n 0, 1) := by decide +kernel
theorem dX11_init_68 : decode cX11_init 68 = .ok (.sipush 250, 3) := by decide +kernel
theorem dX11_init_71 : decode cX11_init 71 = .ok (.newarray .int, 2) := by decide +kernel
theorem dX11_init_73 : decode cX11_init 73 = .ok (.putfield 34, 3) := by decide +kernel
theorem dX11_init_76 : decode cX11_init 76 = .ok (.aload_n 0, 1) := by decide +kernel
theorem dX11_init_77 : decode cX11_init 77 = .ok (.iconst (-1), 1) := by decide +kernel
theorem dX11_init_78 : decode cX11_init 78 = .ok (.putfield 37, 3) := by decide +kernel
theorem dX11_init_81 : decode cX11_init 81 = .ok (.aload_n 0, 1) := by decide +kernel
theorem dX11_init_82 : decode cX11_init 82 = .ok (.iconst 2, 1) := by decide +kernel
theorem dX11_init_83 : decode cX11_init 83 = .ok (.newarray .int, 2) := by decide +kernel
theorem dX11_init_85 : decode cX11_init 85 = .ok (.putfield 41, 3) := by decide +kernel
theorem dX11_init_88 : decode cX11_init 88 = .ok (.aload_n 0, 1) := by decide +kernel
theorem dX11_init_89 : decode cX11_init 89 = .ok (.bipush 6, 2) := by decide +kernel
theorem dX11_init_91 : decode cX11_init 91 = .ok (.newarray .int, 2) := by decide +kernel
theorem dX11_init_93 : decode cX11_init 93 = .ok (.putfield 44, 3) := by decide +kernel
theorem dX11_init_96 : decode cX11_init 96 = .ok (.aload_n 0, 1) := by decide +kernel
theorem dX11_init_97 : decode cX11_init 97 = .ok (.iconst 4, 1) := by decide +kernel
theorem dX11_init_98 : decode cX11_init 98 = .ok (.newarray .int, 2) := by decide +kernel
theorem dX11_init_100 : decode cX11_init 100 = .ok (.putfield 47, 3) := by decide +kernel
theorem dX11_init_103 : decode cX11_init 103 = .ok (.aload_n 0, 1) := by decide +kernel
theorem dX11_init_104 : decode cX11_init 104 = .ok (.bipush 10, 2) := by decide +kernel
theorem dX11_init_106 : decode cX11_init 106 = .ok (.newarray .int, 2) := by decide +kernel
theorem dX11_init_108 : decode cX11_init 108 = .ok (.putfield 50, 3) := by decide +kernel
theorem dX11_init_111 : decode cX11_init 111 = .ok (.aload_n 0, 1) := by decide +kernel
theorem dX11_init_112 : decode cX11_init 112 = .ok (.bipush 10, 2) := by decide +kernel
theorem dX11_init_114 : decode cX11_init 114 = .ok (.newarray .int, 2) := by decide +kernel
theorem dX11_init_116 : decode cX11_init 116 = .ok (.putfield 53, 3) := by decide +kernel
theorem dX11_init_119 : decode cX11_init 119 = .ok (.aload_n 0, 1) := by decide +kernel
theorem dX11_init_120 : decode cX11_init 120 = .ok (.bipush 10, 2) := by decide +kernel
theorem dX11_init_122 : decode cX11_init 122 = .ok (.newarray .int, 2) := by decide +kernel
theorem dX11_init_124 : decode cX11_init 124 = .ok (.putfield 56, 3) := by decide +kernel
theorem dX11_init_127 : decode cX11_init 127 = .ok (.aload_n 0, 1) := by decide +kernel
theorem dX11_init_128 : decode cX11_init 128 = .ok (.bipush 10, 2) := by decide +kernel
theorem dX11_init_130 : decode cX11_init 130 = .ok (.newarray .int, 2) := by decide +kernel
theorem dX11_init_132 : decode cX11_init 132 = .ok (.putfield 59, 3) := by decide +kernel
theorem dX11_init_135 : decode cX11_init 135 = .ok (.aload_n 0, 1) := by decide +kernel
theorem dX11_init_136 : decode cX11_init 136 = .ok (.bipush 6, 2) := by decide +kernel
theorem dX11_init_138 : decode cX11_init 138 = .ok (.newarray .int, 2) := by decide +kernel
theorem dX11_init_140 : decode cX11_init 140 = .ok (.putfield 62, 3) := by decide +kernel
theorem dX11_init_143 : decode cX11_init 143 = .ok (.aload_n 0, 1) := by decide +kernel
theorem dX11_init_144 : decode cX11_init 144 = .ok (.bipush 42, 2) := by decide +kernel
theorem dX11_init_146 : decode cX11_init 146 = .ok (.newarray .int, 2) := by decide +kernel
theorem dX11_init_148 : decode cX11_init 148 = .ok (.putfield 65, 3) := by decide +kernel
theorem dX11_init_151 : decode cX11_init 151 = .ok (.aload_n 0, 1) := by decide +kernel
theorem dX11_init_152 : decode cX11_init 152 = .ok (.bipush 42, 2) := by decide +kernel
theorem dX11_init_154 : decode cX11_init 154 = .ok (.newarray .int, 2) := by decide +kernel
theorem dX11_init_156 : decode cX11_init 156 = .ok (.putfield 68, 3) := by decide +kernel
theorem dX11_init_159 : decode cX11_init 159 = .ok (.aload_n 0, 1) := by decide +kernel
theorem dX11_init_160 : decode cX11_init 160 = .ok (.sipush 1060, 3) := by decide +kernel
theorem dX11_init_163 : decode cX11_init 163 = .ok (.newarray .int, 2) := by decide +kernel
theorem dX11_init_165 : decode cX11_init 165 = .ok (.putfield 71, 3) := by decide +kernel
theorem dX11_init_168 : decode cX11_init 168 = .ok (.aload_n 0, 1) := by decide +kernel
theorem dX11_init_169 : decode cX11_init 169 = .ok (.sipush 11264, 3) := by decide +kernel
theorem dX11_init_172 : decode cX11_init 172 = .ok (.newarray .int, 2) := by decide +kernel
theorem dX11_init_174 : decode cX11_init 174 = .ok (.putfield 74, 3) := by decide +kernel
theorem dX11_init_177 : decode cX11_init 177 = .ok (.aload_n 0, 1) := by decide +kernel
theorem dX11_init_178 : decode cX11_init 178 = .ok (.bipush 8, 2) := by decide +kernel
theorem dX11_init_180 : decode cX11_init 180 = .ok (.newarray .int, 2) := by decide +kernel
theorem dX11_init_182 : decode cX11_init 182 = .ok (.putfield 77, 3) := by decide +kernel
theorem dX11_init_185 : decode cX11_init 185 = .ok (.aload_n 0, 1) := by decide +kernel
theorem dX11_init_186 : decode cX11_init 186 = .ok (.bipush 15, 2) := by decide +kernel
theorem dX11_init_188 : decode cX11_init 188 = .ok (.newarray .int, 2) := by decide +kernel
theorem dX11_init_190 : decode cX11_init 190 = .ok (.putfield 80, 3) := by decide +kernel
theorem dX11_init_193 : decode cX11_init 193 = .ok (.aload_n 0, 1) := by decide +kernel
theorem dX11_init_194 : decode cX11_init 194 = .ok (.bipush 15, 2) := by decide +kernel
theorem dX11_init_196 : decode cX11_init 196 = .ok (.newarray .int, 2) := by decide +kernel
theorem dX11_init_198 : decode cX11_init 198 = .ok (.putfield 83, 3) := by decide +kernel
theorem dX11_init_201 : decode cX11_init 201 = .ok (.aload_n 0, 1) := by decide +kernel
theorem dX11_init_202 : decode cX11_init 202 = .ok (.bipush 108, 2) := by decide +kernel
theorem dX11_init_204 : decode cX11_init 204 = .ok (.newarray .int, 2) := by decide +kernel
theorem dX11_init_206 : decode cX11_init 206 = .ok (.putfield 86, 3) := by decide +kernel
theorem dX11_init_209 : decode cX11_init 209 = .ok (.aload_n 0, 1) := by decide +kernel
theorem dX11_init_210 : decode cX11_init 210 = .ok (.iconst 2, 1) := by decide +kernel
theorem dX11_init_211 : decode cX11_init 211 = .ok (.newarray .boolean, 2) := by decide +kernel
theorem dX11_init_213 : decode cX11_init 213 = .ok (.putfield 89, 3) := by decide +kernel
theorem dX11_init_216 : decode cX11_init 216 = .ok (.iconst 0, 1) := by decide +kernel
theorem dX11_init_217 : decode cX11_init 217 = .ok (.istore_n 1, 1) := by decide +kernel
theorem dX11_init_218 : decode cX11_init 218 = .ok (.iload_n 1, 1) := by decide +kernel
theorem dX11_init_219 : decode cX11_init 219 = .ok (.bipush 41, 2) := by decide +kernel
theorem dX11_init_221 : decode cX11_init 221 = .ok (.if_icmp .gt 16, 3) := by decide +kernel
theorem dX11_init_224 : decode cX11_init 224 = .ok (.aload_n 0, 1) := by decide +kernel
theorem dX11_init_225 : decode cX11_init 225 = .ok (.getfield 65, 3) := by decide +kernel
theorem dX11_init_228 : decode cX11_init 228 = .ok (.iload_n 1, 1) := by decide +kernel
theorem dX11_init_229 : decode cX11_init 229 = .ok (.iconst (-1), 1) := by decide +kernel
theorem dX11_init_230 : decode cX11_init 230 = .ok (.iastore, 1) := by decide +kernel
theorem dX11_init_231 : decode cX11_init 231 = .ok (.iinc 1 1, 3) := by decide +kernel
theorem dX11_init_234 : decode cX11_init 234 = .ok (.goto (-16), 3) := by decide +kernel
theorem dX11_init_237 : decode cX11_init 237 = .ok (.return_, 1) := by decide +kernel
theorem dX11_in_0 : decode cX11_in 0 = .ok (.lload_n 0, 1) := by decide +kernel
theorem dX11_in_1 : decode cX11_in 1 = .ok (.lload_n 2, 1) := by decide +kernel
theorem dX11_in_2 : decode cX11_in 2 = .ok (.lcmp, 1) := by decide +kernel
theorem dX11_in_3 : decode cX11_in 3 = .ok (.ifCond .lt 14, 3) := by decide +kernel
theorem dX11_in_6 : decode cX11_in 6 = .ok (.lload_n 0, 1) := by decide +kernel
theorem dX11_in_7 : decode cX11_in 7 = .ok (.lload 4, 2) := by decide +kernel
theorem dX11_in_9 : decode cX11_in 9 = .ok (.lcmp, 1) := by decide +kernel
theorem dX11_in_10 : decode cX11_in 10 = .ok (.ifCond .gt 7, 3) := by decide +kernel
theorem dX11_in_13 : decode cX11_in 13 = .ok (.iconst 1, 1) := by decide +kernel
theorem dX11_in_14 : decode cX11_in 14 = .ok (.goto 4, 3) := by decide +kernel
theorem dX11_in_17 : decode cX11_in 17 = .ok (.iconst 0, 1) := by decide +kernel
theorem dX11_in_18 : decode cX11_in 18 = .ok (.ireturn, 1) := by decide +kernel
theorem dX11_has_0 : decode cX11_has 0 = .ok (.iload_n 0, 1) := by decide +kernel
theorem dX11_has_1 : decode cX11_has 1 = .ok (.iload_n 1, 1) := by decide +kernel
theorem dX11_has_2 : decode cX11_has 2 = .ok (.ishr, 1) := by decide +kernel
theorem dX11_has_3 : decode cX11_has 3 = .ok (.iconst 1, 1) := by decide +kernel
theorem dX11_has_4 : decode cX11_has 4 = .ok (.iand, 1) := by decide +kernel
theorem dX11_has_5 : decode cX11_has 5 = .ok (.iconst 1, 1) := by decide +kernel
theorem dX11_has_6 : decode cX11_has 6 = .ok (.if_icmp .ne 7, 3) := by decide +kernel
theorem dX11_has_9 : decode cX11_has 9 = .ok (.iconst 1, 1) := by decide +kernel
theorem dX11_has_10 : decode cX11_has 10 = .ok (.goto 4, 3) := by decide +kernel
theorem dX11_has_13 : decode cX11_has 13 = .ok (.iconst 0, 1) := by decide +kernel
theorem dX11_has_14 : decode cX11_has 14 = .ok (.ireturn, 1) := by decide +kernel
theorem dX11_isSpeaker_0 : decode cX11_isSpeaker 0 = .ok (.iload_n 1, 1) := by decide +kernel
theorem dX11_isSpeaker_1 : decode cX11_isSpeaker 1 = .ok (.i2l, 1) := by decide +kernel
theorem dX11_isSpeaker_2 : decode cX11_isSpeaker 2 = .ok (.lconst 0, 1) := by decide +kernel
theorem dX11_isSpeaker_3 : decode cX11_isSpeaker 3 = .ok (.aload_n 0, 1) := by decide +kernel
theorem dX11_isSpeaker_4 : decode cX11_isSpeaker 4 = .ok (.getfield 93, 3) := by decide +kernel
theorem dX11_isSpeaker_7 : decode cX11_isSpeaker 7 = .ok (.iconst 1, 1) := by decide +kernel
theorem dX11_isSpeaker_8 : decode cX11_isSpeaker 8 = .ok (.isub, 1) := by decide +kernel
theorem dX11_isSpeaker_9 : decode cX11_isSpeaker 9 = .ok (.i2l, 1) := by decide +kernel
theorem dX11_isSpeaker_10 : decode cX11_isSpeaker 10 = .ok (.invokestatic 96, 3) := by decide +kernel
theorem dX11_isSpeaker_13 : decode cX11_isSpeaker 13 = .ok (.ireturn, 1) := by decide +kernel
theorem dX11_isOf_0 : decode cX11_isOf 0 = .ok (.aload_n 0, 1) := by decide +kernel
theorem dX11_isOf_1 : decode cX11_isOf 1 = .ok (.iload_n 1, 1) := by decide +kernel
theorem dX11_isOf_2 : decode cX11_isOf 2 = .ok (.invokevirtual 100, 3) := by decide +kernel
theorem dX11_isOf_5 : decode cX11_isOf 5 = .ok (.ifCond .eq 17, 3) := by decide +kernel
theorem dX11_isOf_8 : decode cX11_isOf 8 = .ok (.aload_n 0, 1) := by decide +kernel
theorem dX11_isOf_9 : decode cX11_isOf 9 = .ok (.getfield 16, 3) := by decide +kernel
theorem dX11_isOf_12 : decode cX11_isOf 12 = .ok (.iload_n 1, 1) := by decide +kernel
theorem dX11_isOf_13 : decode cX11_isOf 13 = .ok (.iaload, 1) := by decide +kernel
theorem dX11_isOf_14 : decode cX11_isOf 14 = .ok (.iload_n 2, 1) := by decide +kernel
theorem dX11_isOf_15 : decode cX11_isOf 15 = .ok (.if_icmp .ne 7, 3) := by decide +kernel
theorem dX11_isOf_18 : decode cX11_isOf 18 = .ok (.iconst 1, 1) := by decide +kernel
theorem dX11_isOf_19 : decode cX11_isOf 19 = .ok (.goto 4, 3) := by decide +kernel
theorem dX11_isOf_22 : decode cX11_isOf 22 = .ok (.iconst 0, 1) := by decide +kernel
theorem dX11_isOf_23 : decode cX11_isOf 23 = .ok (.ireturn, 1) := by decide +kernel
theorem dX11_feed_0 : decode cX11_feed 0 = .ok (.iload_n 1, 1) := by decide +kernel
theorem dX11_feed_1 : decode cX11_feed 1 = .ok (.i2l, 1) := by decide +kernel
theorem dX11_feed_2 : decode cX11_feed 2 = .ok (.lconst 0, 1) := by decide +kernel
theorem dX11_feed_3 : decode cX11_feed 3 = .ok (.ldc2_w 104, 3) := by decide +kernel
theorem dX11_feed_6 : decode cX11_feed 6 = .ok (.invokestatic 96, 3) := by decide +kernel
theorem dX11_feed_9 : decode cX11_feed 9 = .ok (.ifCond .ne 6, 3) := by decide +kernel
theorem dX11_feed_12 : decode cX11_feed 12 = .ok (.ldc 106, 2) := by decide +kernel
theorem dX11_feed_14 : decode cX11_feed 14 = .ok (.ireturn, 1) := by decide +kernel
theorem dX11_feed_15 : decode cX11_feed 15 = .ok (.aload_n 0, 1) := by decide +kernel
theorem dX11_feed_16 : decode cX11_feed 16 = .ok (.getfield 107, 3) := by decide +kernel
theorem dX11_feed_19 : decode cX11_feed 19 = .ok (.sipush 250, 3) := by decide +kernel
theorem dX11_feed_22 : decode cX11_feed 22 = .ok (.if_icmp .ne 6, 3) := by decide +kernel
theorem dX11_feed_25 : decode cX11_feed 25 = .ok (.ldc 110, 2) := by decide +kernel
theorem dX11_feed_27 : decode cX11_feed 27 = .ok (.ireturn, 1) := by decide +kernel
theorem dX11_feed_28 : decode cX11_feed 28 = .ok (.aload_n 0, 1) := by decide +kernel
theorem dX11_feed_29 : decode cX11_feed 29 = .ok (.getfield 34, 3) := by decide +kernel
theorem dX11_feed_32 : decode cX11_feed 32 = .ok (.aload_n 0, 1) := by decide +kernel
theorem dX11_feed_33 : decode cX11_feed 33 = .ok (.getfield 107, 3) := by decide +kernel
theorem dX11_feed_36 : decode cX11_feed 36 = .ok (.iload_n 1, 1) := by decide +kernel
theorem dX11_feed_37 : decode cX11_feed 37 = .ok (.iastore, 1) := by decide +kernel
theorem dX11_feed_38 : decode cX11_feed 38 = .ok (.aload_n 0, 1) := by decide +kernel
theorem dX11_feed_39 : decode cX11_feed 39 = .ok (.dup, 1) := by decide +kernel
theorem dX11_feed_40 : decode cX11_feed 40 = .ok (.getfield 107, 3) := by decide +kernel
theorem dX11_feed_43 : decode cX11_feed 43 = .ok (.iconst 1, 1) := by decide +kernel
theorem dX11_feed_44 : decode cX11_feed 44 = .ok (.iadd, 1) := by decide +kernel
theorem dX11_feed_45 : decode cX11_feed 45 = .ok (.putfield 107, 3) := by decide +kernel
theorem dX11_feed_48 : decode cX11_feed 48 = .ok (.aload_n 0, 1) := by decide +kernel
theorem dX11_feed_49 : decode cX11_feed 49 = .ok (.getfield 107, 3) := by decide +kernel
theorem dX11_feed_52 : decode cX11_feed 52 = .ok (.ireturn, 1) := by decide +kernel
theorem dX11_here_0 : decode cX11_here 0 = .ok (.aload_n 0, 1) := by decide +kernel
theorem dX11_here_1 : decode cX11_here 1 = .ok (.getfield 111, 3) := by decide +kernel
theorem dX11_here_4 : decode cX11_here 4 = .ok (.aload_n 0, 1) := by decide +kernel
theorem dX11_here_5 : decode cX11_here 5 = .ok (.getfield 107, 3) := by decide +kernel
theorem dX11_here_8 : decode cX11_here 8 = .ok (.if_icmp .ge 30, 3) := by decide +kernel
theorem dX11_here_11 : decode cX11_here 11 = .ok (.aload_n 0, 1) := by decide +kernel
theorem dX11_here_12 : decode cX11_here 12 = .ok (.getfield 34, 3) := by decide +kernel
theorem dX11_here_15 : decode cX11_here 15 = .ok (.aload_n 0, 1) := by decide +kernel
theorem dX11_here_16 : decode cX11_here 16 = .ok (.getfield 111, 3) := by decide +kernel
theorem dX11_here_19 : decode cX11_here 19 = .ok (.iaload, 1) := by decide +kernel
theorem dX11_here_20 : decode cX11_here 20 = .ok (.bipush 32, 2) := by decide +kernel
theorem dX11_here_22 : decode cX11_here 22 = .ok (.if_icmp .ne 16, 3) := by decide +kernel
theorem dX11_here_25 : decode cX11_here 25 = .ok (.aload_n 0, 1) := by decide +kernel
theorem dX11_here_26 : decode cX11_here 26 = .ok (.dup, 1) := by decide +kernel
theorem dX11_here_27 : decode cX11_here 27 = .ok (.getfield 111, 3) := by decide +kernel
theorem dX11_here_30 : decode cX11_here 30 = .ok (.iconst 1, 1) := by decide +kernel
theorem dX11_here_31 : decode cX11_here 31 = .ok (.iadd, 1) := by decide +kernel
theorem dX11_here_32 : decode cX11_here 32 = .ok (.putfield 111, 3) := by decide +kernel
theorem dX11_here_35 : decode cX11_here 35 = .ok (.goto (-35), 3) := by decide +kernel
theorem dX11_here_38 : decode cX11_here 38 = .ok (.aload_n 0, 1) := by decide +kernel
theorem dX11_here_39 : decode cX11_here 39 = .ok (.getfield 111, 3) := by decide +kernel
theorem dX11_here_42 : decode cX11_here 42 = .ok (.aload_n 0, 1) := by decide +kernel
theorem dX11_here_43 : decode cX11_here 43 = .ok (.getfield 107, 3) := by decide +kernel
theorem dX11_here_46 : decode cX11_here 46 = .ok (.if_icmp .ge 15, 3) := by decide +kernel
theorem dX11_here_49 : decode cX11_here 49 = .ok (.aload_n 0, 1) := by decide +kernel
theorem dX11_here_50 : decode cX11_here 50 = .ok (.getfield 34, 3) := by decide +kernel
theorem dX11_here_53 : decode cX11_here 53 = .ok (.aload_n 0, 1) := by decide +kernel
