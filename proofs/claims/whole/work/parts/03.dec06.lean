theorem dX11_game_166 : decode cX11_game 166 = .ok (.goto 5, 3) := by decide +kernel
theorem dX11_game_169 : decode cX11_game 169 = .ok (.iload 6, 2) := by decide +kernel
theorem dX11_game_171 : decode cX11_game 171 = .ok (.istore 6, 2) := by decide +kernel
theorem dX11_game_173 : decode cX11_game 173 = .ok (.iinc 7 1, 3) := by decide +kernel
theorem dX11_game_176 : decode cX11_game 176 = .ok (.goto (-95), 3) := by decide +kernel
theorem dX11_game_179 : decode cX11_game 179 = .ok (.aload_n 0, 1) := by decide +kernel
theorem dX11_game_180 : decode cX11_game 180 = .ok (.getfield 74, 3) := by decide +kernel
theorem dX11_game_183 : decode cX11_game 183 = .ok (.bipush 11, 2) := by decide +kernel
theorem dX11_game_185 : decode cX11_game 185 = .ok (.iload 4, 2) := by decide +kernel
theorem dX11_game_187 : decode cX11_game 187 = .ok (.imul, 1) := by decide +kernel
theorem dX11_game_188 : decode cX11_game 188 = .ok (.iload 5, 2) := by decide +kernel
theorem dX11_game_190 : decode cX11_game 190 = .ok (.iadd, 1) := by decide +kernel
theorem dX11_game_191 : decode cX11_game 191 = .ok (.iload 6, 2) := by decide +kernel
theorem dX11_game_193 : decode cX11_game 193 = .ok (.sipush (-1000), 3) := by decide +kernel
theorem dX11_game_196 : decode cX11_game 196 = .ok (.if_icmp .le 8, 3) := by decide +kernel
theorem dX11_game_199 : decode cX11_game 199 = .ok (.iload 6, 2) := by decide +kernel
theorem dX11_game_201 : decode cX11_game 201 = .ok (.goto 14, 3) := by decide +kernel
theorem dX11_game_204 : decode cX11_game 204 = .ok (.iload 4, 2) := by decide +kernel
theorem dX11_game_206 : decode cX11_game 206 = .ok (.ifCond .ne 7, 3) := by decide +kernel
theorem dX11_game_209 : decode cX11_game 209 = .ok (.iconst 0, 1) := by decide +kernel
theorem dX11_game_210 : decode cX11_game 210 = .ok (.goto 5, 3) := by decide +kernel
theorem dX11_game_213 : decode cX11_game 213 = .ok (.bipush (-5), 2) := by decide +kernel
theorem dX11_game_215 : decode cX11_game 215 = .ok (.iastore, 1) := by decide +kernel
theorem dX11_game_216 : decode cX11_game 216 = .ok (.iinc 5 1, 3) := by decide +kernel
theorem dX11_game_219 : decode cX11_game 219 = .ok (.goto (-152), 3) := by decide +kernel
theorem dX11_game_222 : decode cX11_game 222 = .ok (.iinc 4 1, 3) := by decide +kernel
theorem dX11_game_225 : decode cX11_game 225 = .ok (.goto (-167), 3) := by decide +kernel
theorem dX11_game_228 : decode cX11_game 228 = .ok (.aload_n 0, 1) := by decide +kernel
theorem dX11_game_229 : decode cX11_game 229 = .ok (.getfield 74, 3) := by decide +kernel
theorem dX11_game_232 : decode cX11_game 232 = .ok (.bipush 11, 2) := by decide +kernel
theorem dX11_game_234 : decode cX11_game 234 = .ok (.iload_n 2, 1) := by decide +kernel
theorem dX11_game_235 : decode cX11_game 235 = .ok (.imul, 1) := by decide +kernel
theorem dX11_game_236 : decode cX11_game 236 = .ok (.iload_n 3, 1) := by decide +kernel
theorem dX11_game_237 : decode cX11_game 237 = .ok (.iadd, 1) := by decide +kernel
theorem dX11_game_238 : decode cX11_game 238 = .ok (.iaload, 1) := by decide +kernel
theorem dX11_game_239 : decode cX11_game 239 = .ok (.sipush 1000, 3) := by decide +kernel
theorem dX11_game_242 : decode cX11_game 242 = .ok (.iadd, 1) := by decide +kernel
theorem dX11_game_243 : decode cX11_game 243 = .ok (.ireturn, 1) := by decide +kernel
theorem dX11_figure_0 : decode cX11_figure 0 = .ok (.iload_n 0, 1) := by decide +kernel
theorem dX11_figure_1 : decode cX11_figure 1 = .ok (.istore_n 3, 1) := by decide +kernel
theorem dX11_figure_2 : decode cX11_figure 2 = .ok (.iload_n 1, 1) := by decide +kernel
theorem dX11_figure_3 : decode cX11_figure 3 = .ok (.iconst 1, 1) := by decide +kernel
theorem dX11_figure_4 : decode cX11_figure 4 = .ok (.isub, 1) := by decide +kernel
theorem dX11_figure_5 : decode cX11_figure 5 = .ok (.istore 4, 2) := by decide +kernel
theorem dX11_figure_7 : decode cX11_figure 7 = .ok (.iload 4, 2) := by decide +kernel
theorem dX11_figure_9 : decode cX11_figure 9 = .ok (.iload_n 2, 1) := by decide +kernel
theorem dX11_figure_10 : decode cX11_figure 10 = .ok (.if_icmp .le 14, 3) := by decide +kernel
theorem dX11_figure_13 : decode cX11_figure 13 = .ok (.iload_n 3, 1) := by decide +kernel
theorem dX11_figure_14 : decode cX11_figure 14 = .ok (.bipush 6, 2) := by decide +kernel
theorem dX11_figure_16 : decode cX11_figure 16 = .ok (.idiv, 1) := by decide +kernel
theorem dX11_figure_17 : decode cX11_figure 17 = .ok (.istore_n 3, 1) := by decide +kernel
theorem dX11_figure_18 : decode cX11_figure 18 = .ok (.iinc 4 (-1), 3) := by decide +kernel
theorem dX11_figure_21 : decode cX11_figure 21 = .ok (.goto (-14), 3) := by decide +kernel
theorem dX11_figure_24 : decode cX11_figure 24 = .ok (.iload_n 3, 1) := by decide +kernel
theorem dX11_figure_25 : decode cX11_figure 25 = .ok (.bipush 6, 2) := by decide +kernel
theorem dX11_figure_27 : decode cX11_figure 27 = .ok (.irem, 1) := by decide +kernel
theorem dX11_figure_28 : decode cX11_figure 28 = .ok (.ireturn, 1) := by decide +kernel
theorem dX11_pullAt_0 : decode cX11_pullAt 0 = .ok (.aload_n 0, 1) := by decide +kernel
theorem dX11_pullAt_1 : decode cX11_pullAt 1 = .ok (.getfield 31, 3) := by decide +kernel
theorem dX11_pullAt_4 : decode cX11_pullAt 4 = .ok (.iconst 2, 1) := by decide +kernel
theorem dX11_pullAt_5 : decode cX11_pullAt 5 = .ok (.iload_n 1, 1) := by decide +kernel
theorem dX11_pullAt_6 : decode cX11_pullAt 6 = .ok (.iadd, 1) := by decide +kernel
theorem dX11_pullAt_7 : decode cX11_pullAt 7 = .ok (.iaload, 1) := by decide +kernel
theorem dX11_pullAt_8 : decode cX11_pullAt 8 = .ok (.iload_n 2, 1) := by decide +kernel
theorem dX11_pullAt_9 : decode cX11_pullAt 9 = .ok (.iadd, 1) := by decide +kernel
theorem dX11_pullAt_10 : decode cX11_pullAt 10 = .ok (.aload_n 0, 1) := by decide +kernel
theorem dX11_pullAt_11 : decode cX11_pullAt 11 = .ok (.getfield 19, 3) := by decide +kernel
theorem dX11_pullAt_14 : decode cX11_pullAt 14 = .ok (.iload_n 1, 1) := by decide +kernel
theorem dX11_pullAt_15 : decode cX11_pullAt 15 = .ok (.iaload, 1) := by decide +kernel
theorem dX11_pullAt_16 : decode cX11_pullAt 16 = .ok (.if_icmp .ge 16, 3) := by decide +kernel
theorem dX11_pullAt_19 : decode cX11_pullAt 19 = .ok (.aload_n 0, 1) := by decide +kernel
theorem dX11_pullAt_20 : decode cX11_pullAt 20 = .ok (.getfield 31, 3) := by decide +kernel
theorem dX11_pullAt_23 : decode cX11_pullAt 23 = .ok (.iconst 2, 1) := by decide +kernel
theorem dX11_pullAt_24 : decode cX11_pullAt 24 = .ok (.iload_n 1, 1) := by decide +kernel
theorem dX11_pullAt_25 : decode cX11_pullAt 25 = .ok (.iadd, 1) := by decide +kernel
theorem dX11_pullAt_26 : decode cX11_pullAt 26 = .ok (.iaload, 1) := by decide +kernel
theorem dX11_pullAt_27 : decode cX11_pullAt 27 = .ok (.iload_n 2, 1) := by decide +kernel
theorem dX11_pullAt_28 : decode cX11_pullAt 28 = .ok (.iadd, 1) := by decide +kernel
theorem dX11_pullAt_29 : decode cX11_pullAt 29 = .ok (.goto 9, 3) := by decide +kernel
theorem dX11_pullAt_32 : decode cX11_pullAt 32 = .ok (.aload_n 0, 1) := by decide +kernel
theorem dX11_pullAt_33 : decode cX11_pullAt 33 = .ok (.getfield 19, 3) := by decide +kernel
theorem dX11_pullAt_36 : decode cX11_pullAt 36 = .ok (.iload_n 1, 1) := by decide +kernel
theorem dX11_pullAt_37 : decode cX11_pullAt 37 = .ok (.iaload, 1) := by decide +kernel
theorem dX11_pullAt_38 : decode cX11_pullAt 38 = .ok (.istore 4, 2) := by decide +kernel
theorem dX11_pullAt_40 : decode cX11_pullAt 40 = .ok (.aload_n 0, 1) := by decide +kernel
theorem dX11_pullAt_41 : decode cX11_pullAt 41 = .ok (.iload 4, 2) := by decide +kernel
theorem dX11_pullAt_43 : decode cX11_pullAt 43 = .ok (.invokevirtual 208, 3) := by decide +kernel
theorem dX11_pullAt_46 : decode cX11_pullAt 46 = .ok (.istore 5, 2) := by decide +kernel
theorem dX11_pullAt_48 : decode cX11_pullAt 48 = .ok (.iload_n 3, 1) := by decide +kernel
theorem dX11_pullAt_49 : decode cX11_pullAt 49 = .ok (.iload_n 2, 1) := by decide +kernel
theorem dX11_pullAt_50 : decode cX11_pullAt 50 = .ok (.if_icmp .le 9, 3) := by decide +kernel
theorem dX11_pullAt_53 : decode cX11_pullAt 53 = .ok (.iload_n 3, 1) := by decide +kernel
theorem dX11_pullAt_54 : decode cX11_pullAt 54 = .ok (.iload_n 2, 1) := by decide +kernel
theorem dX11_pullAt_55 : decode cX11_pullAt 55 = .ok (.isub, 1) := by decide +kernel
theorem dX11_pullAt_56 : decode cX11_pullAt 56 = .ok (.goto 4, 3) := by decide +kernel
theorem dX11_pullAt_59 : decode cX11_pullAt 59 = .ok (.iconst 0, 1) := by decide +kernel
theorem dX11_pullAt_60 : decode cX11_pullAt 60 = .ok (.istore 6, 2) := by decide +kernel
theorem dX11_pullAt_62 : decode cX11_pullAt 62 = .ok (.aload_n 0, 1) := by decide +kernel
theorem dX11_pullAt_63 : decode cX11_pullAt 63 = .ok (.iload_n 1, 1) := by decide +kernel
theorem dX11_pullAt_64 : decode cX11_pullAt 64 = .ok (.iload 5, 2) := by decide +kernel
theorem dX11_pullAt_66 : decode cX11_pullAt 66 = .ok (.ifCond .ge 7, 3) := by decide +kernel
theorem dX11_pullAt_69 : decode cX11_pullAt 69 = .ok (.iconst 0, 1) := by decide +kernel
theorem dX11_pullAt_70 : decode cX11_pullAt 70 = .ok (.goto 5, 3) := by decide +kernel
theorem dX11_pullAt_73 : decode cX11_pullAt 73 = .ok (.iload 5, 2) := by decide +kernel
theorem dX11_pullAt_75 : decode cX11_pullAt 75 = .ok (.iload 6, 2) := by decide +kernel
theorem dX11_pullAt_77 : decode cX11_pullAt 77 = .ok (.isub, 1) := by decide +kernel
theorem dX11_pullAt_78 : decode cX11_pullAt 78 = .ok (.invokevirtual 211, 3) := by decide +kernel
theorem dX11_pullAt_81 : decode cX11_pullAt 81 = .ok (.ireturn, 1) := by decide +kernel
theorem dX11_farBy_0 : decode cX11_farBy 0 = .ok (.iconst 0, 1) := by decide +kernel
theorem dX11_farBy_1 : decode cX11_farBy 1 = .ok (.istore 5, 2) := by decide +kernel
theorem dX11_farBy_3 : decode cX11_farBy 3 = .ok (.iconst 0, 1) := by decide +kernel
theorem dX11_farBy_4 : decode cX11_farBy 4 = .ok (.istore 6, 2) := by decide +kernel
theorem dX11_farBy_6 : decode cX11_farBy 6 = .ok (.iconst 0, 1) := by decide +kernel
theorem dX11_farBy_7 : decode cX11_farBy 7 = .ok (.istore 7, 2) := by decide +kernel
theorem dX11_farBy_9 : decode cX11_farBy 9 = .ok (.iload 7, 2) := by decide +kernel
theorem dX11_farBy_11 : decode cX11_farBy 11 = .ok (.iload_n 3, 1) := by decide +kernel
theorem dX11_farBy_12 : decode cX11_farBy 12 = .ok (.if_icmp .ge 65, 3) := by decide +kernel
theorem dX11_farBy_15 : decode cX11_farBy 15 = .ok (.iload_n 2, 1) := by decide +kernel
theorem dX11_farBy_16 : decode cX11_farBy 16 = .ok (.iload_n 3, 1) := by decide +kernel
theorem dX11_farBy_17 : decode cX11_farBy 17 = .ok (.iload 7, 2) := by decide +kernel
theorem dX11_farBy_19 : decode cX11_farBy 19 = .ok (.invokestatic 269, 3) := by decide +kernel
theorem dX11_farBy_22 : decode cX11_farBy 22 = .ok (.istore 8, 2) := by decide +kernel
theorem dX11_farBy_24 : decode cX11_farBy 24 = .ok (.iload 8, 2) := by decide +kernel
theorem dX11_farBy_26 : decode cX11_farBy 26 = .ok (.iload_n 3, 1) := by decide +kernel
theorem dX11_farBy_27 : decode cX11_farBy 27 = .ok (.if_icmp .ge 13, 3) := by decide +kernel
theorem dX11_farBy_30 : decode cX11_farBy 30 = .ok (.iload 5, 2) := by decide +kernel
theorem dX11_farBy_32 : decode cX11_farBy 32 = .ok (.iload 8, 2) := by decide +kernel
theorem dX11_farBy_34 : decode cX11_farBy 34 = .ok (.invokestatic 151, 3) := by decide +kernel
theorem dX11_farBy_37 : decode cX11_farBy 37 = .ok (.ifCond .eq 5, 3) := by decide +kernel
theorem dX11_farBy_40 : decode cX11_farBy 40 = .ok (.iconst (-1), 1) := by decide +kernel
theorem dX11_farBy_41 : decode cX11_farBy 41 = .ok (.ireturn, 1) := by decide +kernel
theorem dX11_farBy_42 : decode cX11_farBy 42 = .ok (.iload 5, 2) := by decide +kernel
theorem dX11_farBy_44 : decode cX11_farBy 44 = .ok (.iconst 1, 1) := by decide +kernel
theorem dX11_farBy_45 : decode cX11_farBy 45 = .ok (.iload 8, 2) := by decide +kernel
theorem dX11_farBy_47 : decode cX11_farBy 47 = .ok (.ishl, 1) := by decide +kernel
theorem dX11_farBy_48 : decode cX11_farBy 48 = .ok (.ior, 1) := by decide +kernel
theorem dX11_farBy_49 : decode cX11_farBy 49 = .ok (.istore 5, 2) := by decide +kernel
theorem dX11_farBy_51 : decode cX11_farBy 51 = .ok (.iload 6, 2) := by decide +kernel
theorem dX11_farBy_53 : decode cX11_farBy 53 = .ok (.aload_n 0, 1) := by decide +kernel
theorem dX11_farBy_54 : decode cX11_farBy 54 = .ok (.aload_n 0, 1) := by decide +kernel
theorem dX11_farBy_55 : decode cX11_farBy 55 = .ok (.iload_n 1, 1) := by decide +kernel
theorem dX11_farBy_56 : decode cX11_farBy 56 = .ok (.iload 8, 2) := by decide +kernel
theorem dX11_farBy_58 : decode cX11_farBy 58 = .ok (.invokevirtual 261, 3) := by decide +kernel
theorem dX11_farBy_61 : decode cX11_farBy 61 = .ok (.iload 7, 2) := by decide +kernel
theorem dX11_farBy_63 : decode cX11_farBy 63 = .ok (.iload 4, 2) := by decide +kernel
theorem dX11_farBy_65 : decode cX11_farBy 65 = .ok (.invokevirtual 273, 3) := by decide +kernel
theorem dX11_farBy_68 : decode cX11_farBy 68 = .ok (.iadd, 1) := by decide +kernel
theorem dX11_farBy_69 : decode cX11_farBy 69 = .ok (.istore 6, 2) := by decide +kernel
theorem dX11_farBy_71 : decode cX11_farBy 71 = .ok (.iinc 7 1, 3) := by decide +kernel
theorem dX11_farBy_74 : decode cX11_farBy 74 = .ok (.goto (-65), 3) := by decide +kernel
theorem dX11_farBy_77 : decode cX11_farBy 77 = .ok (.iload 6, 2) := by decide +kernel
theorem dX11_farBy_79 : decode cX11_farBy 79 = .ok (.ireturn, 1) := by decide +kernel
theorem dX11_order_0 : decode cX11_order 0 = .ok (.iload_n 1, 1) := by decide +kernel
theorem dX11_order_1 : decode cX11_order 1 = .ok (.i2l, 1) := by decide +kernel
theorem dX11_order_2 : decode cX11_order 2 = .ok (.lconst 0, 1) := by decide +kernel
theorem dX11_order_3 : decode cX11_order 3 = .ok (.lconst 1, 1) := by decide +kernel
theorem dX11_order_4 : decode cX11_order 4 = .ok (.invokestatic 96, 3) := by decide +kernel
theorem dX11_order_7 : decode cX11_order 7 = .ok (.ifCond .ne 6, 3) := by decide +kernel
theorem dX11_order_10 : decode cX11_order 10 = .ok (.ldc 200, 2) := by decide +kernel
theorem dX11_order_12 : decode cX11_order 12 = .ok (.ireturn, 1) := by decide +kernel
theorem dX11_order_13 : decode cX11_order 13 = .ok (.iload_n 2, 1) := by decide +kernel
theorem dX11_order_14 : decode cX11_order 14 = .ok (.i2l, 1) := by decide +kernel
theorem dX11_order_15 : decode cX11_order 15 = .ok (.lconst 0, 1) := by decide +kernel
theorem dX11_order_16 : decode cX11_order 16 = .ok (.ldc2_w 276, 3) := by decide +kernel
theorem dX11_order_19 : decode cX11_order 19 = .ok (.invokestatic 96, 3) := by decide +kernel
theorem dX11_order_22 : decode cX11_order 22 = .ok (.ifCond .ne 6, 3) := by decide +kernel
theorem dX11_order_25 : decode cX11_order 25 = .ok (.ldc 106, 2) := by decide +kernel
theorem dX11_order_27 : decode cX11_order 27 = .ok (.ireturn, 1) := by decide +kernel
theorem dX11_order_28 : decode cX11_order 28 = .ok (.aload_n 0, 1) := by decide +kernel
theorem dX11_order_29 : decode cX11_order 29 = .ok (.iload_n 1, 1) := by decide +kernel
theorem dX11_order_30 : decode cX11_order 30 = .ok (.invokevirtual 258, 3) := by decide +kernel
theorem dX11_order_33 : decode cX11_order 33 = .ok (.istore 4, 2) := by decide +kernel
theorem dX11_order_35 : decode cX11_order 35 = .ok (.iload 4, 2) := by decide +kernel
theorem dX11_order_37 : decode cX11_order 37 = .ok (.bipush 6, 2) := by decide +kernel
theorem dX11_order_39 : decode cX11_order 39 = .ok (.if_icmp .le 6, 3) := by decide +kernel
theorem dX11_order_42 : decode cX11_order 42 = .ok (.ldc 237, 2) := by decide +kernel
theorem dX11_order_44 : decode cX11_order 44 = .ok (.ireturn, 1) := by decide +kernel
theorem dX11_order_45 : decode cX11_order 45 = .ok (.iconst 1, 1) := by decide +kernel
theorem dX11_order_46 : decode cX11_order 46 = .ok (.istore 5, 2) := by decide +kernel
theorem dX11_order_48 : decode cX11_order 48 = .ok (.iconst 0, 1) := by decide +kernel
theorem dX11_order_49 : decode cX11_order 49 = .ok (.istore 6, 2) := by decide +kernel
theorem dX11_order_51 : decode cX11_order 51 = .ok (.iload 6, 2) := by decide +kernel
theorem dX11_order_53 : decode cX11_order 53 = .ok (.iload 4, 2) := by decide +kernel
theorem dX11_order_55 : decode cX11_order 55 = .ok (.if_icmp .ge 16, 3) := by decide +kernel
theorem dX11_order_58 : decode cX11_order 58 = .ok (.iload 5, 2) := by decide +kernel
theorem dX11_order_60 : decode cX11_order 60 = .ok (.bipush 6, 2) := by decide +kernel
theorem dX11_order_62 : decode cX11_order 62 = .ok (.imul, 1) := by decide +kernel
theorem dX11_order_63 : decode cX11_order 63 = .ok (.istore 5, 2) := by decide +kernel
theorem dX11_order_65 : decode cX11_order 65 = .ok (.iinc 6 1, 3) := by decide +kernel
theorem dX11_order_68 : decode cX11_order 68 = .ok (.goto (-17), 3) := by decide +kernel
theorem dX11_order_71 : decode cX11_order 71 = .ok (.iconst (-1), 1) := by decide +kernel
theorem dX11_order_72 : decode cX11_order 72 = .ok (.istore 6, 2) := by decide +kernel
theorem dX11_order_74 : decode cX11_order 74 = .ok (.iconst (-1), 1) := by decide +kernel
theorem dX11_order_75 : decode cX11_order 75 = .ok (.istore 7, 2) := by decide +kernel
theorem dX11_order_77 : decode cX11_order 77 = .ok (.iconst 0, 1) := by decide +kernel
theorem dX11_order_78 : decode cX11_order 78 = .ok (.istore 8, 2) := by decide +kernel
theorem dX11_order_80 : decode cX11_order 80 = .ok (.iload 8, 2) := by decide +kernel
theorem dX11_order_82 : decode cX11_order 82 = .ok (.iload 5, 2) := by decide +kernel
theorem dX11_order_84 : decode cX11_order 84 = .ok (.if_icmp .ge 53, 3) := by decide +kernel
theorem dX11_order_87 : decode cX11_order 87 = .ok (.aload_n 0, 1) := by decide +kernel
theorem dX11_order_88 : decode cX11_order 88 = .ok (.iload_n 1, 1) := by decide +kernel
theorem dX11_order_89 : decode cX11_order 89 = .ok (.iload 8, 2) := by decide +kernel
theorem dX11_order_91 : decode cX11_order 91 = .ok (.iload 4, 2) := by decide +kernel
theorem dX11_order_93 : decode cX11_order 93 = .ok (.iload_n 2, 1) := by decide +kernel
theorem dX11_order_94 : decode cX11_order 94 = .ok (.invokevirtual 278, 3) := by decide +kernel
theorem dX11_order_97 : decode cX11_order 97 = .ok (.istore 9, 2) := by decide +kernel
theorem dX11_order_99 : decode cX11_order 99 = .ok (.iload 9, 2) := by decide +kernel
theorem dX11_order_101 : decode cX11_order 101 = .ok (.iload 7, 2) := by decide +kernel
theorem dX11_order_103 : decode cX11_order 103 = .ok (.if_icmp .le 8, 3) := by decide +kernel
theorem dX11_order_106 : decode cX11_order 106 = .ok (.iload 8, 2) := by decide +kernel
theorem dX11_order_108 : decode cX11_order 108 = .ok (.goto 5, 3) := by decide +kernel
theorem dX11_order_111 : decode cX11_order 111 = .ok (.iload 6, 2) := by decide +kernel
theorem dX11_order_113 : decode cX11_order 113 = .ok (.istore 6, 2) := by decide +kernel
theorem dX11_order_115 : decode cX11_order 115 = .ok (.iload 9, 2) := by decide +kernel
theorem dX11_order_117 : decode cX11_order 117 = .ok (.iload 7, 2) := by decide +kernel
theorem dX11_order_119 : decode cX11_order 119 = .ok (.if_icmp .le 8, 3) := by decide +kernel
theorem dX11_order_122 : decode cX11_order 122 = .ok (.iload 9, 2) := by decide +kernel
theorem dX11_order_124 : decode cX11_order 124 = .ok (.goto 5, 3) := by decide +kernel
theorem dX11_order_127 : decode cX11_order 127 = .ok (.iload 7, 2) := by decide +kernel
theorem dX11_order_129 : decode cX11_order 129 = .ok (.istore 7, 2) := by decide +kernel
theorem dX11_order_131 : decode cX11_order 131 = .ok (.iinc 8 1, 3) := by decide +kernel
theorem dX11_order_134 : decode cX11_order 134 = .ok (.goto (-54), 3) := by decide +kernel
theorem dX11_order_137 : decode cX11_order 137 = .ok (.iload_n 3, 1) := by decide +kernel
theorem dX11_order_138 : decode cX11_order 138 = .ok (.iconst (-1), 1) := by decide +kernel
theorem dX11_order_139 : decode cX11_order 139 = .ok (.if_icmp .ne 8, 3) := by decide +kernel
theorem dX11_order_142 : decode cX11_order 142 = .ok (.iload 7, 2) := by decide +kernel
theorem dX11_order_144 : decode cX11_order 144 = .ok (.goto 34, 3) := by decide +kernel
theorem dX11_order_147 : decode cX11_order 147 = .ok (.iload_n 3, 1) := by decide +kernel
theorem dX11_order_148 : decode cX11_order 148 = .ok (.i2l, 1) := by decide +kernel
theorem dX11_order_149 : decode cX11_order 149 = .ok (.lconst 0, 1) := by decide +kernel
theorem dX11_order_150 : decode cX11_order 150 = .ok (.iload 4, 2) := by decide +kernel
theorem dX11_order_152 : decode cX11_order 152 = .ok (.iconst 1, 1) := by decide +kernel
theorem dX11_order_153 : decode cX11_order 153 = .ok (.isub, 1) := by decide +kernel
theorem dX11_order_154 : decode cX11_order 154 = .ok (.i2l, 1) := by decide +kernel
theorem dX11_order_155 : decode cX11_order 155 = .ok (.invokestatic 96, 3) := by decide +kernel
theorem dX11_order_158 : decode cX11_order 158 = .ok (.ifCond .eq 19, 3) := by decide +kernel
theorem dX11_order_161 : decode cX11_order 161 = .ok (.aload_n 0, 1) := by decide +kernel
theorem dX11_order_162 : decode cX11_order 162 = .ok (.iload_n 1, 1) := by decide +kernel
theorem dX11_order_163 : decode cX11_order 163 = .ok (.iload 6, 2) := by decide +kernel
theorem dX11_order_165 : decode cX11_order 165 = .ok (.iload 4, 2) := by decide +kernel
theorem dX11_order_167 : decode cX11_order 167 = .ok (.iload_n 3, 1) := by decide +kernel
theorem dX11_order_168 : decode cX11_order 168 = .ok (.invokestatic 269, 3) := by decide +kernel
theorem dX11_order_171 : decode cX11_order 171 = .ok (.invokevirtual 261, 3) := by decide +kernel
theorem dX11_order_174 : decode cX11_order 174 = .ok (.goto 4, 3) := by decide +kernel
theorem dX11_order_177 : decode cX11_order 177 = .ok (.iconst (-1), 1) := by decide +kernel
theorem dX11_order_178 : decode cX11_order 178 = .ok (.ireturn, 1) := by decide +kernel
theorem dX11_weightOf_0 : decode cX11_weightOf 0 = .ok (.iconst 0, 1) := by decide +kernel
theorem dX11_weightOf_1 : decode cX11_weightOf 1 = .ok (.istore_n 2, 1) := by decide +kernel
theorem dX11_weightOf_2 : decode cX11_weightOf 2 = .ok (.iconst 0, 1) := by decide +kernel
theorem dX11_weightOf_3 : decode cX11_weightOf 3 = .ok (.istore_n 3, 1) := by decide +kernel
theorem dX11_weightOf_4 : decode cX11_weightOf 4 = .ok (.iload_n 3, 1) := by decide +kernel
theorem dX11_weightOf_5 : decode cX11_weightOf 5 = .ok (.aload_n 0, 1) := by decide +kernel
theorem dX11_weightOf_6 : decode cX11_weightOf 6 = .ok (.getfield 93, 3) := by decide +kernel
theorem dX11_weightOf_9 : decode cX11_weightOf 9 = .ok (.if_icmp .ge 32, 3) := by decide +kernel
theorem dX11_weightOf_12 : decode cX11_weightOf 12 = .ok (.iload_n 2, 1) := by decide +kernel
theorem dX11_weightOf_13 : decode cX11_weightOf 13 = .ok (.aload_n 0, 1) := by decide +kernel
theorem dX11_weightOf_14 : decode cX11_weightOf 14 = .ok (.getfield 16, 3) := by decide +kernel
theorem dX11_weightOf_17 : decode cX11_weightOf 17 = .ok (.iload_n 3, 1) := by decide +kernel
theorem dX11_weightOf_18 : decode cX11_weightOf 18 = .ok (.iaload, 1) := by decide +kernel
theorem dX11_weightOf_19 : decode cX11_weightOf 19 = .ok (.iload_n 1, 1) := by decide +kernel
theorem dX11_weightOf_20 : decode cX11_weightOf 20 = .ok (.if_icmp .ne 12, 3) := by decide +kernel
theorem dX11_weightOf_23 : decode cX11_weightOf 23 = .ok (.aload_n 0, 1) := by decide +kernel
theorem dX11_weightOf_24 : decode cX11_weightOf 24 = .ok (.getfield 22, 3) := by decide +kernel
theorem dX11_weightOf_27 : decode cX11_weightOf 27 = .ok (.iload_n 3, 1) := by decide +kernel
theorem dX11_weightOf_28 : decode cX11_weightOf 28 = .ok (.iaload, 1) := by decide +kernel
theorem dX11_weightOf_29 : decode cX11_weightOf 29 = .ok (.goto 4, 3) := by decide +kernel
theorem dX11_weightOf_32 : decode cX11_weightOf 32 = .ok (.iconst 0, 1) := by decide +kernel
theorem dX11_weightOf_33 : decode cX11_weightOf 33 = .ok (.iadd, 1) := by decide +kernel
theorem dX11_weightOf_34 : decode cX11_weightOf 34 = .ok (.istore_n 2, 1) := by decide +kernel
theorem dX11_weightOf_35 : decode cX11_weightOf 35 = .ok (.iinc 3 1, 3) := by decide +kernel
theorem dX11_weightOf_38 : decode cX11_weightOf 38 = .ok (.goto (-34), 3) := by decide +kernel
theorem dX11_weightOf_41 : decode cX11_weightOf 41 = .ok (.iload_n 2, 1) := by decide +kernel
theorem dX11_weightOf_42 : decode cX11_weightOf 42 = .ok (.ireturn, 1) := by decide +kernel
theorem dX11_even_0 : decode cX11_even 0 = .ok (.iload_n 1, 1) := by decide +kernel
theorem dX11_even_1 : decode cX11_even 1 = .ok (.i2l, 1) := by decide +kernel
theorem dX11_even_2 : decode cX11_even 2 = .ok (.lconst 0, 1) := by decide +kernel
theorem dX11_even_3 : decode cX11_even 3 = .ok (.lconst 1, 1) := by decide +kernel
theorem dX11_even_4 : decode cX11_even 4 = .ok (.invokestatic 96, 3) := by decide +kernel
theorem dX11_even_7 : decode cX11_even 7 = .ok (.ifCond .ne 6, 3) := by decide +kernel
theorem dX11_even_10 : decode cX11_even 10 = .ok (.ldc 106, 2) := by decide +kernel
theorem dX11_even_12 : decode cX11_even 12 = .ok (.ireturn, 1) := by decide +kernel
theorem dX11_even_13 : decode cX11_even 13 = .ok (.aload_n 0, 1) := by decide +kernel
theorem dX11_even_14 : decode cX11_even 14 = .ok (.iconst 1, 1) := by decide +kernel
theorem dX11_even_15 : decode cX11_even 15 = .ok (.invokevirtual 281, 3) := by decide +kernel
theorem dX11_even_18 : decode cX11_even 18 = .ok (.aload_n 0, 1) := by decide +kernel
theorem dX11_even_19 : decode cX11_even 19 = .ok (.iconst 0, 1) := by decide +kernel
theorem dX11_even_20 : decode cX11_even 20 = .ok (.invokevirtual 281, 3) := by decide +kernel
theorem dX11_even_23 : decode cX11_even 23 = .ok (.isub, 1) := by decide +kernel
theorem dX11_even_24 : decode cX11_even 24 = .ok (.istore_n 2, 1) := by decide +kernel
theorem dX11_even_25 : decode cX11_even 25 = .ok (.iload_n 1, 1) := by decide +kernel
theorem dX11_even_26 : decode cX11_even 26 = .ok (.iconst 1, 1) := by decide +kernel
theorem dX11_even_27 : decode cX11_even 27 = .ok (.if_icmp .ne 14, 3) := by decide +kernel
theorem dX11_even_30 : decode cX11_even 30 = .ok (.iload_n 2, 1) := by decide +kernel
theorem dX11_even_31 : decode cX11_even 31 = .ok (.ifCond .ge 8, 3) := by decide +kernel
theorem dX11_even_34 : decode cX11_even 34 = .ok (.iload_n 2, 1) := by decide +kernel
theorem dX11_even_35 : decode cX11_even 35 = .ok (.ineg, 1) := by decide +kernel
theorem dX11_even_36 : decode cX11_even 36 = .ok (.goto 4, 3) := by decide +kernel
theorem dX11_even_39 : decode cX11_even 39 = .ok (.iload_n 2, 1) := by decide +kernel
theorem dX11_even_40 : decode cX11_even 40 = .ok (.ireturn, 1) := by decide +kernel
theorem dX11_even_41 : decode cX11_even 41 = .ok (.iload_n 2, 1) := by decide +kernel
theorem dX11_even_42 : decode cX11_even 42 = .ok (.ifCond .le 7, 3) := by decide +kernel
theorem dX11_even_45 : decode cX11_even 45 = .ok (.iconst 0, 1) := by decide +kernel
theorem dX11_even_46 : decode cX11_even 46 = .ok (.goto 12, 3) := by decide +kernel
theorem dX11_even_49 : decode cX11_even 49 = .ok (.iload_n 2, 1) := by decide +kernel
theorem dX11_even_50 : decode cX11_even 50 = .ok (.ifCond .ge 7, 3) := by decide +kernel
theorem dX11_even_53 : decode cX11_even 53 = .ok (.iconst 1, 1) := by decide +kernel
theorem dX11_even_54 : decode cX11_even 54 = .ok (.goto 4, 3) := by decide +kernel
theorem dX11_even_57 : decode cX11_even 57 = .ok (.iconst (-1), 1) := by decide +kernel
theorem dX11_even_58 : decode cX11_even 58 = .ok (.ireturn, 1) := by decide +kernel
theorem dX11_longestNow_0 : decode cX11_longestNow 0 = .ok (.aload_n 0, 1) := by decide +kernel
theorem dX11_longestNow_1 : decode cX11_longestNow 1 = .ok (.aload_n 0, 1) := by decide +kernel
theorem dX11_longestNow_2 : decode cX11_longestNow 2 = .ok (.getfield 31, 3) := by decide +kernel
theorem dX11_longestNow_5 : decode cX11_longestNow 5 = .ok (.iconst 2, 1) := by decide +kernel
theorem dX11_longestNow_6 : decode cX11_longestNow 6 = .ok (.iload_n 1, 1) := by decide +kernel
theorem dX11_longestNow_7 : decode cX11_longestNow 7 = .ok (.iadd, 1) := by decide +kernel
theorem dX11_longestNow_8 : decode cX11_longestNow 8 = .ok (.iaload, 1) := by decide +kernel
theorem dX11_longestNow_9 : decode cX11_longestNow 9 = .ok (.invokevirtual 208, 3) := by decide +kernel
theorem dX11_longestNow_12 : decode cX11_longestNow 12 = .ok (.istore_n 2, 1) := by decide +kernel
theorem dX11_longestNow_13 : decode cX11_longestNow 13 = .ok (.iload_n 2, 1) := by decide +kernel
theorem dX11_longestNow_14 : decode cX11_longestNow 14 = .ok (.ifCond .ge 7, 3) := by decide +kernel
theorem dX11_longestNow_17 : decode cX11_longestNow 17 = .ok (.iconst 0, 1) := by decide +kernel
theorem dX11_longestNow_18 : decode cX11_longestNow 18 = .ok (.goto 4, 3) := by decide +kernel
theorem dX11_longestNow_21 : decode cX11_longestNow 21 = .ok (.iload_n 2, 1) := by decide +kernel
theorem dX11_longestNow_22 : decode cX11_longestNow 22 = .ok (.ireturn, 1) := by decide +kernel
theorem dX11_silence_0 : decode cX11_silence 0 = .ok (.aload_n 0, 1) := by decide +kernel
theorem dX11_silence_1 : decode cX11_silence 1 = .ok (.iload_n 1, 1) := by decide +kernel
theorem dX11_silence_2 : decode cX11_silence 2 = .ok (.iconst 0, 1) := by decide +kernel
theorem dX11_silence_3 : decode cX11_silence 3 = .ok (.invokevirtual 231, 3) := by decide +kernel
theorem dX11_silence_6 : decode cX11_silence 6 = .ok (.ifCond .eq 12, 3) := by decide +kernel
theorem dX11_silence_9 : decode cX11_silence 9 = .ok (.aload_n 0, 1) := by decide +kernel
theorem dX11_silence_10 : decode cX11_silence 10 = .ok (.iload_n 2, 1) := by decide +kernel
theorem dX11_silence_11 : decode cX11_silence 11 = .ok (.iconst 1, 1) := by decide +kernel
theorem dX11_silence_12 : decode cX11_silence 12 = .ok (.invokevirtual 231, 3) := by decide +kernel
theorem dX11_silence_15 : decode cX11_silence 15 = .ok (.ifCond .ne 6, 3) := by decide +kernel
theorem dX11_silence_18 : decode cX11_silence 18 = .ok (.ldc 200, 2) := by decide +kernel
theorem dX11_silence_20 : decode cX11_silence 20 = .ok (.ireturn, 1) := by decide +kernel
theorem dX11_silence_21 : decode cX11_silence 21 = .ok (.aload_n 0, 1) := by decide +kernel
theorem dX11_silence_22 : decode cX11_silence 22 = .ok (.iload_n 1, 1) := by decide +kernel
theorem dX11_silence_23 : decode cX11_silence 23 = .ok (.invokevirtual 284, 3) := by decide +kernel
theorem dX11_silence_26 : decode cX11_silence 26 = .ok (.istore_n 3, 1) := by decide +kernel
theorem dX11_silence_27 : decode cX11_silence 27 = .ok (.aload_n 0, 1) := by decide +kernel
theorem dX11_silence_28 : decode cX11_silence 28 = .ok (.iload_n 2, 1) := by decide +kernel
theorem dX11_silence_29 : decode cX11_silence 29 = .ok (.invokevirtual 284, 3) := by decide +kernel
theorem dX11_silence_32 : decode cX11_silence 32 = .ok (.istore 4, 2) := by decide +kernel
theorem dX11_silence_34 : decode cX11_silence 34 = .ok (.iconst 0, 1) := by decide +kernel
theorem dX11_silence_35 : decode cX11_silence 35 = .ok (.istore 5, 2) := by decide +kernel
theorem dX11_silence_37 : decode cX11_silence 37 = .ok (.iconst 0, 1) := by decide +kernel
theorem dX11_silence_38 : decode cX11_silence 38 = .ok (.istore 6, 2) := by decide +kernel
theorem dX11_silence_40 : decode cX11_silence 40 = .ok (.iload 6, 2) := by decide +kernel
theorem dX11_silence_42 : decode cX11_silence 42 = .ok (.iconst 4, 1) := by decide +kernel
theorem dX11_silence_43 : decode cX11_silence 43 = .ok (.if_icmp .ge 210, 3) := by decide +kernel
theorem dX11_silence_46 : decode cX11_silence 46 = .ok (.aload_n 0, 1) := by decide +kernel
theorem dX11_silence_47 : decode cX11_silence 47 = .ok (.iload_n 1, 1) := by decide +kernel
theorem dX11_silence_48 : decode cX11_silence 48 = .ok (.iload 6, 2) := by decide +kernel
theorem dX11_silence_50 : decode cX11_silence 50 = .ok (.iconst 0, 1) := by decide +kernel
theorem dX11_silence_51 : decode cX11_silence 51 = .ok (.invokestatic 151, 3) := by decide +kernel
theorem dX11_silence_54 : decode cX11_silence 54 = .ok (.ifCond .eq 7, 3) := by decide +kernel
theorem dX11_silence_57 : decode cX11_silence 57 = .ok (.iload_n 3, 1) := by decide +kernel
theorem dX11_silence_58 : decode cX11_silence 58 = .ok (.goto 4, 3) := by decide +kernel
theorem dX11_silence_61 : decode cX11_silence 61 = .ok (.iconst 0, 1) := by decide +kernel
theorem dX11_silence_62 : decode cX11_silence 62 = .ok (.iload_n 2, 1) := by decide +kernel
theorem dX11_silence_63 : decode cX11_silence 63 = .ok (.iload 6, 2) := by decide +kernel
theorem dX11_silence_65 : decode cX11_silence 65 = .ok (.iconst 1, 1) := by decide +kernel
theorem dX11_silence_66 : decode cX11_silence 66 = .ok (.invokestatic 151, 3) := by decide +kernel
theorem dX11_silence_69 : decode cX11_silence 69 = .ok (.ifCond .eq 8, 3) := by decide +kernel
theorem dX11_silence_72 : decode cX11_silence 72 = .ok (.iload 4, 2) := by decide +kernel
theorem dX11_silence_74 : decode cX11_silence 74 = .ok (.goto 4, 3) := by decide +kernel
theorem dX11_silence_77 : decode cX11_silence 77 = .ok (.iconst 0, 1) := by decide +kernel
theorem dX11_silence_78 : decode cX11_silence 78 = .ok (.invokevirtual 217, 3) := by decide +kernel
theorem dX11_silence_81 : decode cX11_silence 81 = .ok (.ineg, 1) := by decide +kernel
theorem dX11_silence_82 : decode cX11_silence 82 = .ok (.iload 6, 2) := by decide +kernel
theorem dX11_silence_84 : decode cX11_silence 84 = .ok (.iconst 1, 1) := by decide +kernel
theorem dX11_silence_85 : decode cX11_silence 85 = .ok (.iand, 1) := by decide +kernel
theorem dX11_silence_86 : decode cX11_silence 86 = .ok (.isub, 1) := by decide +kernel
theorem dX11_silence_87 : decode cX11_silence 87 = .ok (.istore 7, 2) := by decide +kernel
theorem dX11_silence_89 : decode cX11_silence 89 = .ok (.aload_n 0, 1) := by decide +kernel
theorem dX11_silence_90 : decode cX11_silence 90 = .ok (.iload_n 1, 1) := by decide +kernel
theorem dX11_silence_91 : decode cX11_silence 91 = .ok (.iload 6, 2) := by decide +kernel
theorem dX11_silence_93 : decode cX11_silence 93 = .ok (.iconst 0, 1) := by decide +kernel
theorem dX11_silence_94 : decode cX11_silence 94 = .ok (.invokestatic 151, 3) := by decide +kernel
theorem dX11_silence_97 : decode cX11_silence 97 = .ok (.ifCond .eq 7, 3) := by decide +kernel
theorem dX11_silence_100 : decode cX11_silence 100 = .ok (.iconst 0, 1) := by decide +kernel
theorem dX11_silence_101 : decode cX11_silence 101 = .ok (.goto 4, 3) := by decide +kernel
theorem dX11_silence_104 : decode cX11_silence 104 = .ok (.iload_n 3, 1) := by decide +kernel
theorem dX11_silence_105 : decode cX11_silence 105 = .ok (.iload_n 2, 1) := by decide +kernel
theorem dX11_silence_106 : decode cX11_silence 106 = .ok (.iload 6, 2) := by decide +kernel
theorem dX11_silence_108 : decode cX11_silence 108 = .ok (.iconst 1, 1) := by decide +kernel
theorem dX11_silence_109 : decode cX11_silence 109 = .ok (.invokestatic 151, 3) := by decide +kernel
theorem dX11_silence_112 : decode cX11_silence 112 = .ok (.ifCond .eq 8, 3) := by decide +kernel
theorem dX11_silence_115 : decode cX11_silence 115 = .ok (.iload 4, 2) := by decide +kernel
theorem dX11_silence_117 : decode cX11_silence 117 = .ok (.goto 4, 3) := by decide +kernel
theorem dX11_silence_120 : decode cX11_silence 120 = .ok (.iconst 0, 1) := by decide +kernel
theorem dX11_silence_121 : decode cX11_silence 121 = .ok (.invokevirtual 217, 3) := by decide +kernel
theorem dX11_silence_124 : decode cX11_silence 124 = .ok (.ineg, 1) := by decide +kernel
theorem dX11_silence_125 : decode cX11_silence 125 = .ok (.iconst 1, 1) := by decide +kernel
theorem dX11_silence_126 : decode cX11_silence 126 = .ok (.iload 6, 2) := by decide +kernel
theorem dX11_silence_128 : decode cX11_silence 128 = .ok (.iconst 1, 1) := by decide +kernel
theorem dX11_silence_129 : decode cX11_silence 129 = .ok (.iand, 1) := by decide +kernel
theorem dX11_silence_130 : decode cX11_silence 130 = .ok (.isub, 1) := by decide +kernel
theorem dX11_silence_131 : decode cX11_silence 131 = .ok (.isub, 1) := by decide +kernel
theorem dX11_silence_132 : decode cX11_silence 132 = .ok (.istore 8, 2) := by decide +kernel
theorem dX11_silence_134 : decode cX11_silence 134 = .ok (.aload_n 0, 1) := by decide +kernel
theorem dX11_silence_135 : decode cX11_silence 135 = .ok (.iload_n 1, 1) := by decide +kernel
theorem dX11_silence_136 : decode cX11_silence 136 = .ok (.iload 6, 2) := by decide +kernel
theorem dX11_silence_138 : decode cX11_silence 138 = .ok (.iconst 0, 1) := by decide +kernel
theorem dX11_silence_139 : decode cX11_silence 139 = .ok (.invokestatic 151, 3) := by decide +kernel
theorem dX11_silence_142 : decode cX11_silence 142 = .ok (.ifCond .eq 7, 3) := by decide +kernel
theorem dX11_silence_145 : decode cX11_silence 145 = .ok (.iload_n 3, 1) := by decide +kernel
theorem dX11_silence_146 : decode cX11_silence 146 = .ok (.goto 4, 3) := by decide +kernel
theorem dX11_silence_149 : decode cX11_silence 149 = .ok (.iconst 0, 1) := by decide +kernel
theorem dX11_silence_150 : decode cX11_silence 150 = .ok (.iload_n 2, 1) := by decide +kernel
theorem dX11_silence_151 : decode cX11_silence 151 = .ok (.iload 6, 2) := by decide +kernel
theorem dX11_silence_153 : decode cX11_silence 153 = .ok (.iconst 1, 1) := by decide +kernel
theorem dX11_silence_154 : decode cX11_silence 154 = .ok (.invokestatic 151, 3) := by decide +kernel
theorem dX11_silence_157 : decode cX11_silence 157 = .ok (.ifCond .eq 8, 3) := by decide +kernel
theorem dX11_silence_160 : decode cX11_silence 160 = .ok (.iload 4, 2) := by decide +kernel
theorem dX11_silence_162 : decode cX11_silence 162 = .ok (.goto 4, 3) := by decide +kernel
theorem dX11_silence_165 : decode cX11_silence 165 = .ok (.iconst 0, 1) := by decide +kernel
theorem dX11_silence_166 : decode cX11_silence 166 = .ok (.invokevirtual 217, 3) := by decide +kernel
theorem dX11_silence_169 : decode cX11_silence 169 = .ok (.iload 6, 2) := by decide +kernel
theorem dX11_silence_171 : decode cX11_silence 171 = .ok (.iconst 1, 1) := by decide +kernel
theorem dX11_silence_172 : decode cX11_silence 172 = .ok (.ishr, 1) := by decide +kernel
theorem dX11_silence_173 : decode cX11_silence 173 = .ok (.isub, 1) := by decide +kernel
theorem dX11_silence_174 : decode cX11_silence 174 = .ok (.istore 9, 2) := by decide +kernel
theorem dX11_silence_176 : decode cX11_silence 176 = .ok (.aload_n 0, 1) := by decide +kernel
theorem dX11_silence_177 : decode cX11_silence 177 = .ok (.iload_n 1, 1) := by decide +kernel
theorem dX11_silence_178 : decode cX11_silence 178 = .ok (.iload 6, 2) := by decide +kernel
theorem dX11_silence_180 : decode cX11_silence 180 = .ok (.iconst 0, 1) := by decide +kernel
theorem dX11_silence_181 : decode cX11_silence 181 = .ok (.invokestatic 151, 3) := by decide +kernel
theorem dX11_silence_184 : decode cX11_silence 184 = .ok (.ifCond .eq 7, 3) := by decide +kernel
theorem dX11_silence_187 : decode cX11_silence 187 = .ok (.iload_n 3, 1) := by decide +kernel
theorem dX11_silence_188 : decode cX11_silence 188 = .ok (.goto 4, 3) := by decide +kernel
theorem dX11_silence_191 : decode cX11_silence 191 = .ok (.iconst 0, 1) := by decide +kernel
theorem dX11_silence_192 : decode cX11_silence 192 = .ok (.iload_n 2, 1) := by decide +kernel
theorem dX11_silence_193 : decode cX11_silence 193 = .ok (.iload 6, 2) := by decide +kernel
theorem dX11_silence_195 : decode cX11_silence 195 = .ok (.iconst 1, 1) := by decide +kernel
theorem dX11_silence_196 : decode cX11_silence 196 = .ok (.invokestatic 151, 3) := by decide +kernel
theorem dX11_silence_199 : decode cX11_silence 199 = .ok (.ifCond .eq 7, 3) := by decide +kernel
theorem dX11_silence_202 : decode cX11_silence 202 = .ok (.iconst 0, 1) := by decide +kernel
theorem dX11_silence_203 : decode cX11_silence 203 = .ok (.goto 5, 3) := by decide +kernel
theorem dX11_silence_206 : decode cX11_silence 206 = .ok (.iload 4, 2) := by decide +kernel
theorem dX11_silence_208 : decode cX11_silence 208 = .ok (.invokevirtual 217, 3) := by decide +kernel
theorem dX11_silence_211 : decode cX11_silence 211 = .ok (.iconst 1, 1) := by decide +kernel
theorem dX11_silence_212 : decode cX11_silence 212 = .ok (.iload 6, 2) := by decide +kernel
theorem dX11_silence_214 : decode cX11_silence 214 = .ok (.iconst 1, 1) := by decide +kernel
theorem dX11_silence_215 : decode cX11_silence 215 = .ok (.ishr, 1) := by decide +kernel
theorem dX11_silence_216 : decode cX11_silence 216 = .ok (.isub, 1) := by decide +kernel
theorem dX11_silence_217 : decode cX11_silence 217 = .ok (.isub, 1) := by decide +kernel
theorem dX11_silence_218 : decode cX11_silence 218 = .ok (.istore 10, 2) := by decide +kernel
theorem dX11_silence_220 : decode cX11_silence 220 = .ok (.iload 5, 2) := by decide +kernel
theorem dX11_silence_222 : decode cX11_silence 222 = .ok (.iload 7, 2) := by decide +kernel
theorem dX11_silence_224 : decode cX11_silence 224 = .ok (.iload 8, 2) := by decide +kernel
theorem dX11_silence_226 : decode cX11_silence 226 = .ok (.if_icmp .lt 17, 3) := by decide +kernel
theorem dX11_silence_229 : decode cX11_silence 229 = .ok (.iload 9, 2) := by decide +kernel
theorem dX11_silence_231 : decode cX11_silence 231 = .ok (.iload 10, 2) := by decide +kernel
theorem dX11_silence_233 : decode cX11_silence 233 = .ok (.if_icmp .lt 10, 3) := by decide +kernel
theorem dX11_silence_236 : decode cX11_silence 236 = .ok (.iconst 1, 1) := by decide +kernel
theorem dX11_silence_237 : decode cX11_silence 237 = .ok (.iload 6, 2) := by decide +kernel
theorem dX11_silence_239 : decode cX11_silence 239 = .ok (.ishl, 1) := by decide +kernel
theorem dX11_silence_240 : decode cX11_silence 240 = .ok (.goto 4, 3) := by decide +kernel
theorem dX11_silence_243 : decode cX11_silence 243 = .ok (.iconst 0, 1) := by decide +kernel
theorem dX11_silence_244 : decode cX11_silence 244 = .ok (.ior, 1) := by decide +kernel
theorem dX11_silence_245 : decode cX11_silence 245 = .ok (.istore 5, 2) := by decide +kernel
theorem dX11_silence_247 : decode cX11_silence 247 = .ok (.iinc 6 1, 3) := by decide +kernel
theorem dX11_silence_250 : decode cX11_silence 250 = .ok (.goto (-210), 3) := by decide +kernel
theorem dX11_silence_253 : decode cX11_silence 253 = .ok (.iload 5, 2) := by decide +kernel
theorem dX11_silence_255 : decode cX11_silence 255 = .ok (.ireturn, 1) := by decide +kernel
theorem dX11_bits_0 : decode cX11_bits 0 = .ok (.iconst 0, 1) := by decide +kernel
theorem dX11_bits_1 : decode cX11_bits 1 = .ok (.istore_n 1, 1) := by decide +kernel
theorem dX11_bits_2 : decode cX11_bits 2 = .ok (.iconst 0, 1) := by decide +kernel
theorem dX11_bits_3 : decode cX11_bits 3 = .ok (.istore_n 2, 1) := by decide +kernel
theorem dX11_bits_4 : decode cX11_bits 4 = .ok (.iload_n 2, 1) := by decide +kernel
theorem dX11_bits_5 : decode cX11_bits 5 = .ok (.bipush 10, 2) := by decide +kernel
theorem dX11_bits_7 : decode cX11_bits 7 = .ok (.if_icmp .ge 17, 3) := by decide +kernel
theorem dX11_bits_10 : decode cX11_bits 10 = .ok (.iload_n 1, 1) := by decide +kernel
theorem dX11_bits_11 : decode cX11_bits 11 = .ok (.iload_n 0, 1) := by decide +kernel
theorem dX11_bits_12 : decode cX11_bits 12 = .ok (.iload_n 2, 1) := by decide +kernel
theorem dX11_bits_13 : decode cX11_bits 13 = .ok (.ishr, 1) := by decide +kernel
theorem dX11_bits_14 : decode cX11_bits 14 = .ok (.iconst 1, 1) := by decide +kernel
theorem dX11_bits_15 : decode cX11_bits 15 = .ok (.iand, 1) := by decide +kernel
theorem dX11_bits_16 : decode cX11_bits 16 = .ok (.iadd, 1) := by decide +kernel
theorem dX11_bits_17 : decode cX11_bits 17 = .ok (.istore_n 1, 1) := by decide +kernel
theorem dX11_bits_18 : decode cX11_bits 18 = .ok (.iinc 2 1, 3) := by decide +kernel
theorem dX11_bits_21 : decode cX11_bits 21 = .ok (.goto (-17), 3) := by decide +kernel
theorem dX11_bits_24 : decode cX11_bits 24 = .ok (.iload_n 1, 1) := by decide +kernel
theorem dX11_bits_25 : decode cX11_bits 25 = .ok (.ireturn, 1) := by decide +kernel
theorem dX11_pick_0 : decode cX11_pick 0 = .ok (.iload_n 1, 1) := by decide +kernel
theorem dX11_pick_1 : decode cX11_pick 1 = .ok (.i2l, 1) := by decide +kernel
theorem dX11_pick_2 : decode cX11_pick 2 = .ok (.lconst 0, 1) := by decide +kernel
theorem dX11_pick_3 : decode cX11_pick 3 = .ok (.lconst 1, 1) := by decide +kernel
theorem dX11_pick_4 : decode cX11_pick 4 = .ok (.invokestatic 96, 3) := by decide +kernel
theorem dX11_pick_7 : decode cX11_pick 7 = .ok (.ifCond .ne 6, 3) := by decide +kernel
theorem dX11_pick_10 : decode cX11_pick 10 = .ok (.ldc 106, 2) := by decide +kernel
theorem dX11_pick_12 : decode cX11_pick 12 = .ok (.ireturn, 1) := by decide +kernel
theorem dX11_pick_13 : decode cX11_pick 13 = .ok (.iconst 0, 1) := by decide +kernel
theorem dX11_pick_14 : decode cX11_pick 14 = .ok (.istore_n 2, 1) := by decide +kernel
theorem dX11_pick_15 : decode cX11_pick 15 = .ok (.iconst (-1), 1) := by decide +kernel
theorem dX11_pick_16 : decode cX11_pick 16 = .ok (.istore_n 3, 1) := by decide +kernel
theorem dX11_pick_17 : decode cX11_pick 17 = .ok (.iconst 0, 1) := by decide +kernel
theorem dX11_pick_18 : decode cX11_pick 18 = .ok (.istore 4, 2) := by decide +kernel
theorem dX11_pick_20 : decode cX11_pick 20 = .ok (.iload 4, 2) := by decide +kernel
theorem dX11_pick_22 : decode cX11_pick 22 = .ok (.iconst 1, 1) := by decide +kernel
theorem dX11_pick_23 : decode cX11_pick 23 = .ok (.aload_n 0, 1) := by decide +kernel
theorem dX11_pick_24 : decode cX11_pick 24 = .ok (.getfield 93, 3) := by decide +kernel
theorem dX11_pick_27 : decode cX11_pick 27 = .ok (.ishl, 1) := by decide +kernel
theorem dX11_pick_28 : decode cX11_pick 28 = .ok (.if_icmp .ge 128, 3) := by decide +kernel
theorem dX11_pick_31 : decode cX11_pick 31 = .ok (.iload 4, 2) := by decide +kernel
theorem dX11_pick_33 : decode cX11_pick 33 = .ok (.invokestatic 287, 3) := by decide +kernel
theorem dX11_pick_36 : decode cX11_pick 36 = .ok (.aload_n 0, 1) := by decide +kernel
theorem dX11_pick_37 : decode cX11_pick 37 = .ok (.getfield 93, 3) := by decide +kernel
theorem dX11_pick_40 : decode cX11_pick 40 = .ok (.iconst 1, 1) := by decide +kernel
theorem dX11_pick_41 : decode cX11_pick 41 = .ok (.iadd, 1) := by decide +kernel
theorem dX11_pick_42 : decode cX11_pick 42 = .ok (.iconst 2, 1) := by decide +kernel
theorem dX11_pick_43 : decode cX11_pick 43 = .ok (.idiv, 1) := by decide +kernel
theorem dX11_pick_44 : decode cX11_pick 44 = .ok (.if_icmp .ne 106, 3) := by decide +kernel
theorem dX11_pick_47 : decode cX11_pick 47 = .ok (.iconst 0, 1) := by decide +kernel
theorem dX11_pick_48 : decode cX11_pick 48 = .ok (.istore 5, 2) := by decide +kernel
theorem dX11_pick_50 : decode cX11_pick 50 = .ok (.iconst 0, 1) := by decide +kernel
theorem dX11_pick_51 : decode cX11_pick 51 = .ok (.istore 6, 2) := by decide +kernel
theorem dX11_pick_53 : decode cX11_pick 53 = .ok (.iload 6, 2) := by decide +kernel
theorem dX11_pick_55 : decode cX11_pick 55 = .ok (.aload_n 0, 1) := by decide +kernel
theorem dX11_pick_56 : decode cX11_pick 56 = .ok (.getfield 93, 3) := by decide +kernel
theorem dX11_pick_59 : decode cX11_pick 59 = .ok (.if_icmp .ge 42, 3) := by decide +kernel
theorem dX11_pick_62 : decode cX11_pick 62 = .ok (.iload 5, 2) := by decide +kernel
theorem dX11_pick_64 : decode cX11_pick 64 = .ok (.iload 4, 2) := by decide +kernel
theorem dX11_pick_66 : decode cX11_pick 66 = .ok (.iload 6, 2) := by decide +kernel
theorem dX11_pick_68 : decode cX11_pick 68 = .ok (.invokestatic 151, 3) := by decide +kernel
theorem dX11_pick_71 : decode cX11_pick 71 = .ok (.ifCond .eq 13, 3) := by decide +kernel
theorem dX11_pick_74 : decode cX11_pick 74 = .ok (.aload_n 0, 1) := by decide +kernel
theorem dX11_pick_75 : decode cX11_pick 75 = .ok (.getfield 22, 3) := by decide +kernel
theorem dX11_pick_78 : decode cX11_pick 78 = .ok (.iload 6, 2) := by decide +kernel
theorem dX11_pick_80 : decode cX11_pick 80 = .ok (.iaload, 1) := by decide +kernel
theorem dX11_pick_81 : decode cX11_pick 81 = .ok (.goto 11, 3) := by decide +kernel
theorem dX11_pick_84 : decode cX11_pick 84 = .ok (.aload_n 0, 1) := by decide +kernel
theorem dX11_pick_85 : decode cX11_pick 85 = .ok (.getfield 22, 3) := by decide +kernel
theorem dX11_pick_88 : decode cX11_pick 88 = .ok (.iload 6, 2) := by decide +kernel
theorem dX11_pick_90 : decode cX11_pick 90 = .ok (.iaload, 1) := by decide +kernel
theorem dX11_pick_91 : decode cX11_pick 91 = .ok (.ineg, 1) := by decide +kernel
theorem dX11_pick_92 : decode cX11_pick 92 = .ok (.iadd, 1) := by decide +kernel
theorem dX11_pick_93 : decode cX11_pick 93 = .ok (.istore 5, 2) := by decide +kernel
theorem dX11_pick_95 : decode cX11_pick 95 = .ok (.iinc 6 1, 3) := by decide +kernel
theorem dX11_pick_98 : decode cX11_pick 98 = .ok (.goto (-45), 3) := by decide +kernel
theorem dX11_pick_101 : decode cX11_pick 101 = .ok (.iload 5, 2) := by decide +kernel
theorem dX11_pick_103 : decode cX11_pick 103 = .ok (.ifCond .ge 9, 3) := by decide +kernel
theorem dX11_pick_106 : decode cX11_pick 106 = .ok (.iload 5, 2) := by decide +kernel
theorem dX11_pick_108 : decode cX11_pick 108 = .ok (.ineg, 1) := by decide +kernel
theorem dX11_pick_109 : decode cX11_pick 109 = .ok (.goto 5, 3) := by decide +kernel
theorem dX11_pick_112 : decode cX11_pick 112 = .ok (.iload 5, 2) := by decide +kernel
theorem dX11_pick_114 : decode cX11_pick 114 = .ok (.istore 5, 2) := by decide +kernel
theorem dX11_pick_116 : decode cX11_pick 116 = .ok (.iload_n 3, 1) := by decide +kernel
theorem dX11_pick_117 : decode cX11_pick 117 = .ok (.ifCond .lt 9, 3) := by decide +kernel
theorem dX11_pick_120 : decode cX11_pick 120 = .ok (.iload 5, 2) := by decide +kernel
theorem dX11_pick_122 : decode cX11_pick 122 = .ok (.iload_n 3, 1) := by decide +kernel
theorem dX11_pick_123 : decode cX11_pick 123 = .ok (.if_icmp .ge 8, 3) := by decide +kernel
theorem dX11_pick_126 : decode cX11_pick 126 = .ok (.iload 4, 2) := by decide +kernel
theorem dX11_pick_128 : decode cX11_pick 128 = .ok (.goto 4, 3) := by decide +kernel
theorem dX11_pick_131 : decode cX11_pick 131 = .ok (.iload_n 2, 1) := by decide +kernel
theorem dX11_pick_132 : decode cX11_pick 132 = .ok (.istore_n 2, 1) := by decide +kernel
theorem dX11_pick_133 : decode cX11_pick 133 = .ok (.iload_n 3, 1) := by decide +kernel
theorem dX11_pick_134 : decode cX11_pick 134 = .ok (.ifCond .lt 9, 3) := by decide +kernel
theorem dX11_pick_137 : decode cX11_pick 137 = .ok (.iload 5, 2) := by decide +kernel
theorem dX11_pick_139 : decode cX11_pick 139 = .ok (.iload_n 3, 1) := by decide +kernel
theorem dX11_pick_140 : decode cX11_pick 140 = .ok (.if_icmp .ge 8, 3) := by decide +kernel
theorem dX11_pick_143 : decode cX11_pick 143 = .ok (.iload 5, 2) := by decide +kernel
theorem dX11_pick_145 : decode cX11_pick 145 = .ok (.goto 4, 3) := by decide +kernel
theorem dX11_pick_148 : decode cX11_pick 148 = .ok (.iload_n 3, 1) := by decide +kernel
theorem dX11_pick_149 : decode cX11_pick 149 = .ok (.istore_n 3, 1) := by decide +kernel
theorem dX11_pick_150 : decode cX11_pick 150 = .ok (.iinc 4 1, 3) := by decide +kernel
theorem dX11_pick_153 : decode cX11_pick 153 = .ok (.goto (-133), 3) := by decide +kernel
theorem dX11_pick_156 : decode cX11_pick 156 = .ok (.iload_n 1, 1) := by decide +kernel
theorem dX11_pick_157 : decode cX11_pick 157 = .ok (.ifCond .ne 7, 3) := by decide +kernel
theorem dX11_pick_160 : decode cX11_pick 160 = .ok (.iload_n 2, 1) := by decide +kernel
theorem dX11_pick_161 : decode cX11_pick 161 = .ok (.goto 4, 3) := by decide +kernel
theorem dX11_pick_164 : decode cX11_pick 164 = .ok (.iload_n 3, 1) := by decide +kernel
theorem dX11_pick_165 : decode cX11_pick 165 = .ok (.ireturn, 1) := by decide +kernel
theorem dX11_coughs_0 : decode cX11_coughs 0 = .ok (.iload_n 1, 1) := by decide +kernel
theorem dX11_coughs_1 : decode cX11_coughs 1 = .ok (.i2l, 1) := by decide +kernel
theorem dX11_coughs_2 : decode cX11_coughs 2 = .ok (.lconst 0, 1) := by decide +kernel
theorem dX11_coughs_3 : decode cX11_coughs 3 = .ok (.iconst 1, 1) := by decide +kernel
theorem dX11_coughs_4 : decode cX11_coughs 4 = .ok (.aload_n 0, 1) := by decide +kernel
theorem dX11_coughs_5 : decode cX11_coughs 5 = .ok (.getfield 93, 3) := by decide +kernel
theorem dX11_coughs_8 : decode cX11_coughs 8 = .ok (.ishl, 1) := by decide +kernel
theorem dX11_coughs_9 : decode cX11_coughs 9 = .ok (.iconst 1, 1) := by decide +kernel
theorem dX11_coughs_10 : decode cX11_coughs 10 = .ok (.isub, 1) := by decide +kernel
theorem dX11_coughs_11 : decode cX11_coughs 11 = .ok (.i2l, 1) := by decide +kernel
theorem dX11_coughs_12 : decode cX11_coughs 12 = .ok (.invokestatic 96, 3) := by decide +kernel
theorem dX11_coughs_15 : decode cX11_coughs 15 = .ok (.ifCond .ne 6, 3) := by decide +kernel
theorem dX11_coughs_18 : decode cX11_coughs 18 = .ok (.ldc 200, 2) := by decide +kernel
theorem dX11_coughs_20 : decode cX11_coughs 20 = .ok (.ireturn, 1) := by decide +kernel
theorem dX11_coughs_21 : decode cX11_coughs 21 = .ok (.ldc2_w 290, 3) := by decide +kernel
theorem dX11_coughs_24 : decode cX11_coughs 24 = .ok (.lstore_n 2, 1) := by decide +kernel
theorem dX11_coughs_25 : decode cX11_coughs 25 = .ok (.iconst 0, 1) := by decide +kernel
theorem dX11_coughs_26 : decode cX11_coughs 26 = .ok (.istore 4, 2) := by decide +kernel
theorem dX11_coughs_28 : decode cX11_coughs 28 = .ok (.iload 4, 2) := by decide +kernel
theorem dX11_coughs_30 : decode cX11_coughs 30 = .ok (.aload_n 0, 1) := by decide +kernel
theorem dX11_coughs_31 : decode cX11_coughs 31 = .ok (.getfield 93, 3) := by decide +kernel
theorem dX11_coughs_34 : decode cX11_coughs 34 = .ok (.if_icmp .ge 40, 3) := by decide +kernel
theorem dX11_coughs_37 : decode cX11_coughs 37 = .ok (.iload_n 1, 1) := by decide +kernel
theorem dX11_coughs_38 : decode cX11_coughs 38 = .ok (.iload 4, 2) := by decide +kernel
theorem dX11_coughs_40 : decode cX11_coughs 40 = .ok (.invokestatic 151, 3) := by decide +kernel
theorem dX11_coughs_43 : decode cX11_coughs 43 = .ok (.ifCond .eq 23, 3) := by decide +kernel
theorem dX11_coughs_46 : decode cX11_coughs 46 = .ok (.lload_n 2, 1) := by decide +kernel
theorem dX11_coughs_47 : decode cX11_coughs 47 = .ok (.bipush 100, 2) := by decide +kernel
theorem dX11_coughs_49 : decode cX11_coughs 49 = .ok (.aload_n 0, 1) := by decide +kernel
theorem dX11_coughs_50 : decode cX11_coughs 50 = .ok (.getfield 25, 3) := by decide +kernel
theorem dX11_coughs_53 : decode cX11_coughs 53 = .ok (.iload 4, 2) := by decide +kernel
theorem dX11_coughs_55 : decode cX11_coughs 55 = .ok (.iaload, 1) := by decide +kernel
theorem dX11_coughs_56 : decode cX11_coughs 56 = .ok (.isub, 1) := by decide +kernel
theorem dX11_coughs_57 : decode cX11_coughs 57 = .ok (.i2l, 1) := by decide +kernel
theorem dX11_coughs_58 : decode cX11_coughs 58 = .ok (.lmul, 1) := by decide +kernel
theorem dX11_coughs_59 : decode cX11_coughs 59 = .ok (.ldc2_w 292, 3) := by decide +kernel
theorem dX11_coughs_62 : decode cX11_coughs 62 = .ok (.ldiv, 1) := by decide +kernel
theorem dX11_coughs_63 : decode cX11_coughs 63 = .ok (.goto 4, 3) := by decide +kernel
theorem dX11_coughs_66 : decode cX11_coughs 66 = .ok (.lload_n 2, 1) := by decide +kernel
theorem dX11_coughs_67 : decode cX11_coughs 67 = .ok (.lstore_n 2, 1) := by decide +kernel
theorem dX11_coughs_68 : decode cX11_coughs 68 = .ok (.iinc 4 1, 3) := by decide +kernel
theorem dX11_coughs_71 : decode cX11_coughs 71 = .ok (.goto (-43), 3) := by decide +kernel
theorem dX11_coughs_74 : decode cX11_coughs 74 = .ok (.lload_n 2, 1) := by decide +kernel
theorem dX11_coughs_75 : decode cX11_coughs 75 = .ok (.l2i, 1) := by decide +kernel
theorem dX11_coughs_76 : decode cX11_coughs 76 = .ok (.ireturn, 1) := by decide +kernel
theorem dX11_keepBack_0 : decode cX11_keepBack 0 = .ok (.iload_n 1, 1) := by decide +kernel
theorem dX11_keepBack_1 : decode cX11_keepBack 1 = .ok (.i2l, 1) := by decide +kernel
theorem dX11_keepBack_2 : decode cX11_keepBack 2 = .ok (.lconst 0, 1) := by decide +kernel
theorem dX11_keepBack_3 : decode cX11_keepBack 3 = .ok (.lconst 1, 1) := by decide +kernel
theorem dX11_keepBack_4 : decode cX11_keepBack 4 = .ok (.invokestatic 96, 3) := by decide +kernel
theorem dX11_keepBack_7 : decode cX11_keepBack 7 = .ok (.ifCond .ne 6, 3) := by decide +kernel
theorem dX11_keepBack_10 : decode cX11_keepBack 10 = .ok (.ldc 200, 2) := by decide +kernel
theorem dX11_keepBack_12 : decode cX11_keepBack 12 = .ok (.ireturn, 1) := by decide +kernel
theorem dX11_keepBack_13 : decode cX11_keepBack 13 = .ok (.iconst (-1), 1) := by decide +kernel
theorem dX11_keepBack_14 : decode cX11_keepBack 14 = .ok (.istore_n 2, 1) := by decide +kernel
theorem dX11_keepBack_15 : decode cX11_keepBack 15 = .ok (.iconst (-1), 1) := by decide +kernel
theorem dX11_keepBack_16 : decode cX11_keepBack 16 = .ok (.istore_n 3, 1) := by decide +kernel
theorem dX11_keepBack_17 : decode cX11_keepBack 17 = .ok (.iconst 0, 1) := by decide +kernel
theorem dX11_keepBack_18 : decode cX11_keepBack 18 = .ok (.istore 4, 2) := by decide +kernel
theorem dX11_keepBack_20 : decode cX11_keepBack 20 = .ok (.iload 4, 2) := by decide +kernel
theorem dX11_keepBack_22 : decode cX11_keepBack 22 = .ok (.aload_n 0, 1) := by decide +kernel
theorem dX11_keepBack_23 : decode cX11_keepBack 23 = .ok (.getfield 93, 3) := by decide +kernel
theorem dX11_keepBack_26 : decode cX11_keepBack 26 = .ok (.if_icmp .ge 81, 3) := by decide +kernel
theorem dX11_keepBack_29 : decode cX11_keepBack 29 = .ok (.aload_n 0, 1) := by decide +kernel
theorem dX11_keepBack_30 : decode cX11_keepBack 30 = .ok (.getfield 22, 3) := by decide +kernel
theorem dX11_keepBack_33 : decode cX11_keepBack 33 = .ok (.iload 4, 2) := by decide +kernel
theorem dX11_keepBack_35 : decode cX11_keepBack 35 = .ok (.iaload, 1) := by decide +kernel
theorem dX11_keepBack_36 : decode cX11_keepBack 36 = .ok (.bipush 100, 2) := by decide +kernel
theorem dX11_keepBack_38 : decode cX11_keepBack 38 = .ok (.aload_n 0, 1) := by decide +kernel
theorem dX11_keepBack_39 : decode cX11_keepBack 39 = .ok (.getfield 25, 3) := by decide +kernel
theorem dX11_keepBack_42 : decode cX11_keepBack 42 = .ok (.iload 4, 2) := by decide +kernel
theorem dX11_keepBack_44 : decode cX11_keepBack 44 = .ok (.iaload, 1) := by decide +kernel
theorem dX11_keepBack_45 : decode cX11_keepBack 45 = .ok (.isub, 1) := by decide +kernel
theorem dX11_keepBack_46 : decode cX11_keepBack 46 = .ok (.imul, 1) := by decide +kernel
theorem dX11_keepBack_47 : decode cX11_keepBack 47 = .ok (.istore 5, 2) := by decide +kernel
theorem dX11_keepBack_49 : decode cX11_keepBack 49 = .ok (.aload_n 0, 1) := by decide +kernel
theorem dX11_keepBack_50 : decode cX11_keepBack 50 = .ok (.getfield 16, 3) := by decide +kernel
theorem dX11_keepBack_53 : decode cX11_keepBack 53 = .ok (.iload 4, 2) := by decide +kernel
theorem dX11_keepBack_55 : decode cX11_keepBack 55 = .ok (.iaload, 1) := by decide +kernel
theorem dX11_keepBack_56 : decode cX11_keepBack 56 = .ok (.iload_n 1, 1) := by decide +kernel
theorem dX11_keepBack_57 : decode cX11_keepBack 57 = .ok (.if_icmp .ne 17, 3) := by decide +kernel
theorem dX11_keepBack_60 : decode cX11_keepBack 60 = .ok (.iload_n 3, 1) := by decide +kernel
theorem dX11_keepBack_61 : decode cX11_keepBack 61 = .ok (.ifCond .lt 9, 3) := by decide +kernel
theorem dX11_keepBack_64 : decode cX11_keepBack 64 = .ok (.iload 5, 2) := by decide +kernel
theorem dX11_keepBack_66 : decode cX11_keepBack 66 = .ok (.iload_n 3, 1) := by decide +kernel
theorem dX11_keepBack_67 : decode cX11_keepBack 67 = .ok (.if_icmp .ge 7, 3) := by decide +kernel
theorem dX11_keepBack_70 : decode cX11_keepBack 70 = .ok (.iconst 1, 1) := by decide +kernel
theorem dX11_keepBack_71 : decode cX11_keepBack 71 = .ok (.goto 4, 3) := by decide +kernel
theorem dX11_keepBack_74 : decode cX11_keepBack 74 = .ok (.iconst 0, 1) := by decide +kernel
theorem dX11_keepBack_75 : decode cX11_keepBack 75 = .ok (.istore 6, 2) := by decide +kernel
theorem dX11_keepBack_77 : decode cX11_keepBack 77 = .ok (.iload 6, 2) := by decide +kernel
theorem dX11_keepBack_79 : decode cX11_keepBack 79 = .ok (.ifCond .eq 8, 3) := by decide +kernel
theorem dX11_keepBack_82 : decode cX11_keepBack 82 = .ok (.iload 4, 2) := by decide +kernel
theorem dX11_keepBack_84 : decode cX11_keepBack 84 = .ok (.goto 4, 3) := by decide +kernel
theorem dX11_keepBack_87 : decode cX11_keepBack 87 = .ok (.iload_n 2, 1) := by decide +kernel
theorem dX11_keepBack_88 : decode cX11_keepBack 88 = .ok (.istore_n 2, 1) := by decide +kernel
theorem dX11_keepBack_89 : decode cX11_keepBack 89 = .ok (.iload 6, 2) := by decide +kernel
theorem dX11_keepBack_91 : decode cX11_keepBack 91 = .ok (.ifCond .eq 8, 3) := by decide +kernel
theorem dX11_keepBack_94 : decode cX11_keepBack 94 = .ok (.iload 5, 2) := by decide +kernel
theorem dX11_keepBack_96 : decode cX11_keepBack 96 = .ok (.goto 4, 3) := by decide +kernel
theorem dX11_keepBack_99 : decode cX11_keepBack 99 = .ok (.iload_n 3, 1) := by decide +kernel
theorem dX11_keepBack_100 : decode cX11_keepBack 100 = .ok (.istore_n 3, 1) := by decide +kernel
theorem dX11_keepBack_101 : decode cX11_keepBack 101 = .ok (.iinc 4 1, 3) := by decide +kernel
theorem dX11_keepBack_104 : decode cX11_keepBack 104 = .ok (.goto (-84), 3) := by decide +kernel
theorem dX11_keepBack_107 : decode cX11_keepBack 107 = .ok (.iload_n 2, 1) := by decide +kernel
theorem dX11_keepBack_108 : decode cX11_keepBack 108 = .ok (.ireturn, 1) := by decide +kernel
theorem dX11_mark_0 : decode cX11_mark 0 = .ok (.iload_n 1, 1) := by decide +kernel
theorem dX11_mark_1 : decode cX11_mark 1 = .ok (.i2l, 1) := by decide +kernel
theorem dX11_mark_2 : decode cX11_mark 2 = .ok (.ldc2_w 294, 3) := by decide +kernel
theorem dX11_mark_5 : decode cX11_mark 5 = .ok (.ldc2_w 206, 3) := by decide +kernel
theorem dX11_mark_8 : decode cX11_mark 8 = .ok (.invokestatic 96, 3) := by decide +kernel
theorem dX11_mark_11 : decode cX11_mark 11 = .ok (.ifCond .ne 6, 3) := by decide +kernel
theorem dX11_mark_14 : decode cX11_mark 14 = .ok (.ldc 106, 2) := by decide +kernel
theorem dX11_mark_16 : decode cX11_mark 16 = .ok (.ireturn, 1) := by decide +kernel
theorem dX11_mark_17 : decode cX11_mark 17 = .ok (.aload_n 0, 1) := by decide +kernel
theorem dX11_mark_18 : decode cX11_mark 18 = .ok (.getfield 191, 3) := by decide +kernel
theorem dX11_mark_21 : decode cX11_mark 21 = .ok (.bipush 8, 2) := by decide +kernel
theorem dX11_mark_23 : decode cX11_mark 23 = .ok (.if_icmp .ne 6, 3) := by decide +kernel
theorem dX11_mark_26 : decode cX11_mark 26 = .ok (.ldc 110, 2) := by decide +kernel
theorem dX11_mark_28 : decode cX11_mark 28 = .ok (.ireturn, 1) := by decide +kernel
theorem dX11_mark_29 : decode cX11_mark 29 = .ok (.aload_n 0, 1) := by decide +kernel
theorem dX11_mark_30 : decode cX11_mark 30 = .ok (.getfield 77, 3) := by decide +kernel
theorem dX11_mark_33 : decode cX11_mark 33 = .ok (.aload_n 0, 1) := by decide +kernel
theorem dX11_mark_34 : decode cX11_mark 34 = .ok (.getfield 191, 3) := by decide +kernel
theorem dX11_mark_37 : decode cX11_mark 37 = .ok (.iload_n 1, 1) := by decide +kernel
theorem dX11_mark_38 : decode cX11_mark 38 = .ok (.iastore, 1) := by decide +kernel
theorem dX11_mark_39 : decode cX11_mark 39 = .ok (.aload_n 0, 1) := by decide +kernel
theorem dX11_mark_40 : decode cX11_mark 40 = .ok (.dup, 1) := by decide +kernel
theorem dX11_mark_41 : decode cX11_mark 41 = .ok (.getfield 191, 3) := by decide +kernel
theorem dX11_mark_44 : decode cX11_mark 44 = .ok (.iconst 1, 1) := by decide +kernel
theorem dX11_mark_45 : decode cX11_mark 45 = .ok (.iadd, 1) := by decide +kernel
theorem dX11_mark_46 : decode cX11_mark 46 = .ok (.putfield 191, 3) := by decide +kernel
theorem dX11_mark_49 : decode cX11_mark 49 = .ok (.aload_n 0, 1) := by decide +kernel
theorem dX11_mark_50 : decode cX11_mark 50 = .ok (.getfield 191, 3) := by decide +kernel
theorem dX11_mark_53 : decode cX11_mark 53 = .ok (.ireturn, 1) := by decide +kernel
theorem dX11_isLength_0 : decode cX11_isLength 0 = .ok (.iload_n 1, 1) := by decide +kernel
theorem dX11_isLength_1 : decode cX11_isLength 1 = .ok (.ifCond .eq 12, 3) := by decide +kernel
theorem dX11_isLength_4 : decode cX11_isLength 4 = .ok (.aload_n 0, 1) := by decide +kernel
theorem dX11_isLength_5 : decode cX11_isLength 5 = .ok (.getfield 68, 3) := by decide +kernel
theorem dX11_isLength_8 : decode cX11_isLength 8 = .ok (.iload_n 1, 1) := by decide +kernel
theorem dX11_isLength_9 : decode cX11_isLength 9 = .ok (.iaload, 1) := by decide +kernel
theorem dX11_isLength_10 : decode cX11_isLength 10 = .ok (.ifCond .le 7, 3) := by decide +kernel
theorem dX11_isLength_13 : decode cX11_isLength 13 = .ok (.iconst 1, 1) := by decide +kernel
theorem dX11_isLength_14 : decode cX11_isLength 14 = .ok (.goto 4, 3) := by decide +kernel
theorem dX11_isLength_17 : decode cX11_isLength 17 = .ok (.iconst 0, 1) := by decide +kernel
theorem dX11_isLength_18 : decode cX11_isLength 18 = .ok (.ireturn, 1) := by decide +kernel
theorem dX11_could_0 : decode cX11_could 0 = .ok (.iconst 0, 1) := by decide +kernel
theorem dX11_could_1 : decode cX11_could 1 = .ok (.istore 4, 2) := by decide +kernel
theorem dX11_could_3 : decode cX11_could 3 = .ok (.iconst 0, 1) := by decide +kernel
theorem dX11_could_4 : decode cX11_could 4 = .ok (.istore 5, 2) := by decide +kernel
theorem dX11_could_6 : decode cX11_could 6 = .ok (.iload 5, 2) := by decide +kernel
theorem dX11_could_8 : decode cX11_could 8 = .ok (.aload_n 0, 1) := by decide +kernel
theorem dX11_could_9 : decode cX11_could 9 = .ok (.getfield 19, 3) := by decide +kernel
theorem dX11_could_12 : decode cX11_could 12 = .ok (.iload_n 1, 1) := by decide +kernel
theorem dX11_could_13 : decode cX11_could 13 = .ok (.iaload, 1) := by decide +kernel
theorem dX11_could_14 : decode cX11_could 14 = .ok (.if_icmp .gt 73, 3) := by decide +kernel
theorem dX11_could_17 : decode cX11_could 17 = .ok (.iconst 0, 1) := by decide +kernel
theorem dX11_could_18 : decode cX11_could 18 = .ok (.istore 6, 2) := by decide +kernel
theorem dX11_could_20 : decode cX11_could 20 = .ok (.iload 6, 2) := by decide +kernel
theorem dX11_could_22 : decode cX11_could 22 = .ok (.aload_n 0, 1) := by decide +kernel
theorem dX11_could_23 : decode cX11_could 23 = .ok (.getfield 19, 3) := by decide +kernel
theorem dX11_could_26 : decode cX11_could 26 = .ok (.iload_n 2, 1) := by decide +kernel
theorem dX11_could_27 : decode cX11_could 27 = .ok (.iaload, 1) := by decide +kernel
theorem dX11_could_28 : decode cX11_could 28 = .ok (.if_icmp .gt 53, 3) := by decide +kernel
theorem dX11_could_31 : decode cX11_could 31 = .ok (.iload 4, 2) := by decide +kernel
theorem dX11_could_33 : decode cX11_could 33 = .ok (.ifCond .ne 35, 3) := by decide +kernel
theorem dX11_could_36 : decode cX11_could 36 = .ok (.aload_n 0, 1) := by decide +kernel
theorem dX11_could_37 : decode cX11_could 37 = .ok (.iload 5, 2) := by decide +kernel
theorem dX11_could_39 : decode cX11_could 39 = .ok (.invokevirtual 296, 3) := by decide +kernel
theorem dX11_could_42 : decode cX11_could 42 = .ok (.ifCond .eq 30, 3) := by decide +kernel
theorem dX11_could_45 : decode cX11_could 45 = .ok (.aload_n 0, 1) := by decide +kernel
theorem dX11_could_46 : decode cX11_could 46 = .ok (.iload 6, 2) := by decide +kernel
theorem dX11_could_48 : decode cX11_could 48 = .ok (.invokevirtual 296, 3) := by decide +kernel
theorem dX11_could_51 : decode cX11_could 51 = .ok (.ifCond .eq 21, 3) := by decide +kernel
theorem dX11_could_54 : decode cX11_could 54 = .ok (.aload_n 0, 1) := by decide +kernel
theorem dX11_could_55 : decode cX11_could 55 = .ok (.iload_n 1, 1) := by decide +kernel
theorem dX11_could_56 : decode cX11_could 56 = .ok (.iload 5, 2) := by decide +kernel
theorem dX11_could_58 : decode cX11_could 58 = .ok (.iload_n 2, 1) := by decide +kernel
theorem dX11_could_59 : decode cX11_could 59 = .ok (.iload 6, 2) := by decide +kernel
theorem dX11_could_61 : decode cX11_could 61 = .ok (.invokevirtual 217, 3) := by decide +kernel
theorem dX11_could_64 : decode cX11_could 64 = .ok (.iload_n 3, 1) := by decide +kernel
theorem dX11_could_65 : decode cX11_could 65 = .ok (.if_icmp .ne 7, 3) := by decide +kernel
theorem dX11_could_68 : decode cX11_could 68 = .ok (.iconst 1, 1) := by decide +kernel
theorem dX11_could_69 : decode cX11_could 69 = .ok (.goto 4, 3) := by decide +kernel
theorem dX11_could_72 : decode cX11_could 72 = .ok (.iconst 0, 1) := by decide +kernel
theorem dX11_could_73 : decode cX11_could 73 = .ok (.istore 4, 2) := by decide +kernel
theorem dX11_could_75 : decode cX11_could 75 = .ok (.iinc 6 1, 3) := by decide +kernel
theorem dX11_could_78 : decode cX11_could 78 = .ok (.goto (-58), 3) := by decide +kernel
theorem dX11_could_81 : decode cX11_could 81 = .ok (.iinc 5 1, 3) := by decide +kernel
theorem dX11_could_84 : decode cX11_could 84 = .ok (.goto (-78), 3) := by decide +kernel
theorem dX11_could_87 : decode cX11_could 87 = .ok (.iload 4, 2) := by decide +kernel
theorem dX11_could_89 : decode cX11_could 89 = .ok (.ireturn, 1) := by decide +kernel
theorem dX11_spoke_0 : decode cX11_spoke 0 = .ok (.iload_n 1, 1) := by decide +kernel
theorem dX11_spoke_1 : decode cX11_spoke 1 = .ok (.i2l, 1) := by decide +kernel
theorem dX11_spoke_2 : decode cX11_spoke 2 = .ok (.lconst 0, 1) := by decide +kernel
theorem dX11_spoke_3 : decode cX11_spoke 3 = .ok (.aload_n 0, 1) := by decide +kernel
theorem dX11_spoke_4 : decode cX11_spoke 4 = .ok (.getfield 191, 3) := by decide +kernel
theorem dX11_spoke_7 : decode cX11_spoke 7 = .ok (.iconst 1, 1) := by decide +kernel
theorem dX11_spoke_8 : decode cX11_spoke 8 = .ok (.isub, 1) := by decide +kernel
theorem dX11_spoke_9 : decode cX11_spoke 9 = .ok (.i2l, 1) := by decide +kernel
theorem dX11_spoke_10 : decode cX11_spoke 10 = .ok (.invokestatic 96, 3) := by decide +kernel
theorem dX11_spoke_13 : decode cX11_spoke 13 = .ok (.ifCond .ne 5, 3) := by decide +kernel
theorem dX11_spoke_16 : decode cX11_spoke 16 = .ok (.iconst (-1), 1) := by decide +kernel
theorem dX11_spoke_17 : decode cX11_spoke 17 = .ok (.ireturn, 1) := by decide +kernel
theorem dX11_spoke_18 : decode cX11_spoke 18 = .ok (.iconst 0, 1) := by decide +kernel
theorem dX11_spoke_19 : decode cX11_spoke 19 = .ok (.istore_n 3, 1) := by decide +kernel
theorem dX11_spoke_20 : decode cX11_spoke 20 = .ok (.iconst 0, 1) := by decide +kernel
theorem dX11_spoke_21 : decode cX11_spoke 21 = .ok (.istore 4, 2) := by decide +kernel
theorem dX11_spoke_23 : decode cX11_spoke 23 = .ok (.iload 4, 2) := by decide +kernel
theorem dX11_spoke_25 : decode cX11_spoke 25 = .ok (.bipush 100, 2) := by decide +kernel
theorem dX11_spoke_27 : decode cX11_spoke 27 = .ok (.if_icmp .ge 69, 3) := by decide +kernel
theorem dX11_spoke_30 : decode cX11_spoke 30 = .ok (.aload_n 0, 1) := by decide +kernel
theorem dX11_spoke_31 : decode cX11_spoke 31 = .ok (.iload 4, 2) := by decide +kernel
theorem dX11_spoke_33 : decode cX11_spoke 33 = .ok (.bipush 10, 2) := by decide +kernel
theorem dX11_spoke_35 : decode cX11_spoke 35 = .ok (.idiv, 1) := by decide +kernel
theorem dX11_spoke_36 : decode cX11_spoke 36 = .ok (.iconst 0, 1) := by decide +kernel
theorem dX11_spoke_37 : decode cX11_spoke 37 = .ok (.invokevirtual 231, 3) := by decide +kernel
theorem dX11_spoke_40 : decode cX11_spoke 40 = .ok (.ifCond .eq 50, 3) := by decide +kernel
theorem dX11_spoke_43 : decode cX11_spoke 43 = .ok (.aload_n 0, 1) := by decide +kernel
theorem dX11_spoke_44 : decode cX11_spoke 44 = .ok (.iload 4, 2) := by decide +kernel
theorem dX11_spoke_46 : decode cX11_spoke 46 = .ok (.bipush 10, 2) := by decide +kernel
theorem dX11_spoke_48 : decode cX11_spoke 48 = .ok (.irem, 1) := by decide +kernel
theorem dX11_spoke_49 : decode cX11_spoke 49 = .ok (.iconst 1, 1) := by decide +kernel
theorem dX11_spoke_50 : decode cX11_spoke 50 = .ok (.invokevirtual 231, 3) := by decide +kernel
theorem dX11_spoke_53 : decode cX11_spoke 53 = .ok (.ifCond .eq 37, 3) := by decide +kernel
theorem dX11_spoke_56 : decode cX11_spoke 56 = .ok (.aload_n 0, 1) := by decide +kernel
theorem dX11_spoke_57 : decode cX11_spoke 57 = .ok (.iload 4, 2) := by decide +kernel
theorem dX11_spoke_59 : decode cX11_spoke 59 = .ok (.bipush 10, 2) := by decide +kernel
theorem dX11_spoke_61 : decode cX11_spoke 61 = .ok (.idiv, 1) := by decide +kernel
theorem dX11_spoke_62 : decode cX11_spoke 62 = .ok (.iload 4, 2) := by decide +kernel
theorem dX11_spoke_64 : decode cX11_spoke 64 = .ok (.bipush 10, 2) := by decide +kernel
theorem dX11_spoke_66 : decode cX11_spoke 66 = .ok (.irem, 1) := by decide +kernel
theorem dX11_spoke_67 : decode cX11_spoke 67 = .ok (.aload_n 0, 1) := by decide +kernel
theorem dX11_spoke_68 : decode cX11_spoke 68 = .ok (.getfield 77, 3) := by decide +kernel
theorem dX11_spoke_71 : decode cX11_spoke 71 = .ok (.iload_n 1, 1) := by decide +kernel
theorem dX11_spoke_72 : decode cX11_spoke 72 = .ok (.iaload, 1) := by decide +kernel
theorem dX11_spoke_73 : decode cX11_spoke 73 = .ok (.invokevirtual 299, 3) := by decide +kernel
theorem dX11_spoke_76 : decode cX11_spoke 76 = .ok (.ifCond .eq 14, 3) := by decide +kernel
theorem dX11_spoke_79 : decode cX11_spoke 79 = .ok (.iload_n 3, 1) := by decide +kernel
theorem dX11_spoke_80 : decode cX11_spoke 80 = .ok (.iload_n 2, 1) := by decide +kernel
theorem dX11_spoke_81 : decode cX11_spoke 81 = .ok (.if_icmp .ne 6, 3) := by decide +kernel
theorem dX11_spoke_84 : decode cX11_spoke 84 = .ok (.iload 4, 2) := by decide +kernel
theorem dX11_spoke_86 : decode cX11_spoke 86 = .ok (.ireturn, 1) := by decide +kernel
theorem dX11_spoke_87 : decode cX11_spoke 87 = .ok (.iinc 3 1, 3) := by decide +kernel
theorem dX11_spoke_90 : decode cX11_spoke 90 = .ok (.iinc 4 1, 3) := by decide +kernel
theorem dX11_spoke_93 : decode cX11_spoke 93 = .ok (.goto (-70), 3) := by decide +kernel
theorem dX11_spoke_96 : decode cX11_spoke 96 = .ok (.iload_n 2, 1) := by decide +kernel
theorem dX11_spoke_97 : decode cX11_spoke 97 = .ok (.iconst (-1), 1) := by decide +kernel
theorem dX11_spoke_98 : decode cX11_spoke 98 = .ok (.if_icmp .ne 7, 3) := by decide +kernel
theorem dX11_spoke_101 : decode cX11_spoke 101 = .ok (.iload_n 3, 1) := by decide +kernel
theorem dX11_spoke_102 : decode cX11_spoke 102 = .ok (.goto 4, 3) := by decide +kernel
theorem dX11_spoke_105 : decode cX11_spoke 105 = .ok (.iconst (-1), 1) := by decide +kernel
theorem dX11_spoke_106 : decode cX11_spoke 106 = .ok (.ireturn, 1) := by decide +kernel
theorem dX11_write_0 : decode cX11_write 0 = .ok (.iload_n 1, 1) := by decide +kernel
theorem dX11_write_1 : decode cX11_write 1 = .ok (.i2l, 1) := by decide +kernel
theorem dX11_write_2 : decode cX11_write 2 = .ok (.lconst 0, 1) := by decide +kernel
theorem dX11_write_3 : decode cX11_write 3 = .ok (.ldc2_w 303, 3) := by decide +kernel
theorem dX11_write_6 : decode cX11_write 6 = .ok (.invokestatic 96, 3) := by decide +kernel
theorem dX11_write_9 : decode cX11_write 9 = .ok (.ifCond .eq 17, 3) := by decide +kernel
theorem dX11_write_12 : decode cX11_write 12 = .ok (.iload_n 2, 1) := by decide +kernel
theorem dX11_write_13 : decode cX11_write 13 = .ok (.i2l, 1) := by decide +kernel
theorem dX11_write_14 : decode cX11_write 14 = .ok (.ldc2_w 305, 3) := by decide +kernel
theorem dX11_write_17 : decode cX11_write 17 = .ok (.ldc2_w 307, 3) := by decide +kernel
theorem dX11_write_20 : decode cX11_write 20 = .ok (.invokestatic 96, 3) := by decide +kernel
theorem dX11_write_23 : decode cX11_write 23 = .ok (.ifCond .ne 6, 3) := by decide +kernel
theorem dX11_write_26 : decode cX11_write 26 = .ok (.ldc 106, 2) := by decide +kernel
theorem dX11_write_28 : decode cX11_write 28 = .ok (.ireturn, 1) := by decide +kernel
theorem dX11_write_29 : decode cX11_write 29 = .ok (.aload_n 0, 1) := by decide +kernel
theorem dX11_write_30 : decode cX11_write 30 = .ok (.getfield 194, 3) := by decide +kernel
theorem dX11_write_33 : decode cX11_write 33 = .ok (.bipush 15, 2) := by decide +kernel
theorem dX11_write_35 : decode cX11_write 35 = .ok (.if_icmp .ne 6, 3) := by decide +kernel
theorem dX11_write_38 : decode cX11_write 38 = .ok (.ldc 110, 2) := by decide +kernel
theorem dX11_write_40 : decode cX11_write 40 = .ok (.ireturn, 1) := by decide +kernel
theorem dX11_write_41 : decode cX11_write 41 = .ok (.aload_n 0, 1) := by decide +kernel
theorem dX11_write_42 : decode cX11_write 42 = .ok (.getfield 80, 3) := by decide +kernel
