theorem dX9_readGrammar_44 : decode cX9_readGrammar 44 = .ok (.putfield 44, 3) := by decide +kernel
theorem dX9_readGrammar_47 : decode cX9_readGrammar 47 = .ok (.aload_n 1, 1) := by decide +kernel
theorem dX9_readGrammar_48 : decode cX9_readGrammar 48 = .ok (.iload_n 3, 1) := by decide +kernel
theorem dX9_readGrammar_49 : decode cX9_readGrammar 49 = .ok (.putfield 85, 3) := by decide +kernel
theorem dX9_readGrammar_52 : decode cX9_readGrammar 52 = .ok (.return_, 1) := by decide +kernel
theorem dX9_readStem_0 : decode cX9_readStem 0 = .ok (.aload_n 0, 1) := by decide +kernel
theorem dX9_readStem_1 : decode cX9_readStem 1 = .ok (.aload_n 1, 1) := by decide +kernel
theorem dX9_readStem_2 : decode cX9_readStem 2 = .ok (.getfield 88, 3) := by decide +kernel
theorem dX9_readStem_5 : decode cX9_readStem 5 = .ok (.bipush 6, 2) := by decide +kernel
theorem dX9_readStem_7 : decode cX9_readStem 7 = .ok (.if_icmp .ge 7, 3) := by decide +kernel
theorem dX9_readStem_10 : decode cX9_readStem 10 = .ok (.iconst 1, 1) := by decide +kernel
theorem dX9_readStem_11 : decode cX9_readStem 11 = .ok (.goto 4, 3) := by decide +kernel
theorem dX9_readStem_14 : decode cX9_readStem 14 = .ok (.iconst 0, 1) := by decide +kernel
theorem dX9_readStem_15 : decode cX9_readStem 15 = .ok (.invokevirtual 74, 3) := by decide +kernel
theorem dX9_readStem_18 : decode cX9_readStem 18 = .ok (.aload_n 0, 1) := by decide +kernel
theorem dX9_readStem_19 : decode cX9_readStem 19 = .ok (.iconst 1, 1) := by decide +kernel
theorem dX9_readStem_20 : decode cX9_readStem 20 = .ok (.bipush 9, 2) := by decide +kernel
theorem dX9_readStem_22 : decode cX9_readStem 22 = .ok (.invokevirtual 78, 3) := by decide +kernel
theorem dX9_readStem_25 : decode cX9_readStem 25 = .ok (.istore_n 2, 1) := by decide +kernel
theorem dX9_readStem_26 : decode cX9_readStem 26 = .ok (.aload_n 0, 1) := by decide +kernel
theorem dX9_readStem_27 : decode cX9_readStem 27 = .ok (.invokevirtual 82, 3) := by decide +kernel
theorem dX9_readStem_30 : decode cX9_readStem 30 = .ok (.aload_n 0, 1) := by decide +kernel
theorem dX9_readStem_31 : decode cX9_readStem 31 = .ok (.getfield 15, 3) := by decide +kernel
theorem dX9_readStem_34 : decode cX9_readStem 34 = .ok (.ifCond .ne 8, 3) := by decide +kernel
theorem dX9_readStem_37 : decode cX9_readStem 37 = .ok (.aload_n 1, 1) := by decide +kernel
theorem dX9_readStem_38 : decode cX9_readStem 38 = .ok (.iload_n 2, 1) := by decide +kernel
theorem dX9_readStem_39 : decode cX9_readStem 39 = .ok (.invokevirtual 91, 3) := by decide +kernel
theorem dX9_readStem_42 : decode cX9_readStem 42 = .ok (.return_, 1) := by decide +kernel
theorem dX9_readEnding_0 : decode cX9_readEnding 0 = .ok (.aload_n 0, 1) := by decide +kernel
theorem dX9_readEnding_1 : decode cX9_readEnding 1 = .ok (.aload_n 1, 1) := by decide +kernel
theorem dX9_readEnding_2 : decode cX9_readEnding 2 = .ok (.getfield 95, 3) := by decide +kernel
theorem dX9_readEnding_5 : decode cX9_readEnding 5 = .ok (.iconst 4, 1) := by decide +kernel
theorem dX9_readEnding_6 : decode cX9_readEnding 6 = .ok (.if_icmp .ge 7, 3) := by decide +kernel
theorem dX9_readEnding_9 : decode cX9_readEnding 9 = .ok (.iconst 1, 1) := by decide +kernel
theorem dX9_readEnding_10 : decode cX9_readEnding 10 = .ok (.goto 4, 3) := by decide +kernel
theorem dX9_readEnding_13 : decode cX9_readEnding 13 = .ok (.iconst 0, 1) := by decide +kernel
theorem dX9_readEnding_14 : decode cX9_readEnding 14 = .ok (.invokevirtual 74, 3) := by decide +kernel
theorem dX9_readEnding_17 : decode cX9_readEnding 17 = .ok (.aload_n 0, 1) := by decide +kernel
theorem dX9_readEnding_18 : decode cX9_readEnding 18 = .ok (.iconst 1, 1) := by decide +kernel
theorem dX9_readEnding_19 : decode cX9_readEnding 19 = .ok (.iconst 5, 1) := by decide +kernel
theorem dX9_readEnding_20 : decode cX9_readEnding 20 = .ok (.invokevirtual 78, 3) := by decide +kernel
theorem dX9_readEnding_23 : decode cX9_readEnding 23 = .ok (.istore_n 2, 1) := by decide +kernel
theorem dX9_readEnding_24 : decode cX9_readEnding 24 = .ok (.aload_n 0, 1) := by decide +kernel
theorem dX9_readEnding_25 : decode cX9_readEnding 25 = .ok (.invokevirtual 82, 3) := by decide +kernel
theorem dX9_readEnding_28 : decode cX9_readEnding 28 = .ok (.aload_n 0, 1) := by decide +kernel
theorem dX9_readEnding_29 : decode cX9_readEnding 29 = .ok (.getfield 15, 3) := by decide +kernel
theorem dX9_readEnding_32 : decode cX9_readEnding 32 = .ok (.ifCond .ne 8, 3) := by decide +kernel
theorem dX9_readEnding_35 : decode cX9_readEnding 35 = .ok (.aload_n 1, 1) := by decide +kernel
theorem dX9_readEnding_36 : decode cX9_readEnding 36 = .ok (.iload_n 2, 1) := by decide +kernel
theorem dX9_readEnding_37 : decode cX9_readEnding 37 = .ok (.invokevirtual 98, 3) := by decide +kernel
theorem dX9_readEnding_40 : decode cX9_readEnding 40 = .ok (.return_, 1) := by decide +kernel
theorem dX9_readSpeaker_0 : decode cX9_readSpeaker 0 = .ok (.aload_n 0, 1) := by decide +kernel
theorem dX9_readSpeaker_1 : decode cX9_readSpeaker 1 = .ok (.aload_n 1, 1) := by decide +kernel
theorem dX9_readSpeaker_2 : decode cX9_readSpeaker 2 = .ok (.getfield 101, 3) := by decide +kernel
theorem dX9_readSpeaker_5 : decode cX9_readSpeaker 5 = .ok (.bipush 10, 2) := by decide +kernel
theorem dX9_readSpeaker_7 : decode cX9_readSpeaker 7 = .ok (.if_icmp .ge 7, 3) := by decide +kernel
theorem dX9_readSpeaker_10 : decode cX9_readSpeaker 10 = .ok (.iconst 1, 1) := by decide +kernel
theorem dX9_readSpeaker_11 : decode cX9_readSpeaker 11 = .ok (.goto 4, 3) := by decide +kernel
theorem dX9_readSpeaker_14 : decode cX9_readSpeaker 14 = .ok (.iconst 0, 1) := by decide +kernel
theorem dX9_readSpeaker_15 : decode cX9_readSpeaker 15 = .ok (.invokevirtual 74, 3) := by decide +kernel
theorem dX9_readSpeaker_18 : decode cX9_readSpeaker 18 = .ok (.aload_n 0, 1) := by decide +kernel
theorem dX9_readSpeaker_19 : decode cX9_readSpeaker 19 = .ok (.iconst 0, 1) := by decide +kernel
theorem dX9_readSpeaker_20 : decode cX9_readSpeaker 20 = .ok (.iconst 1, 1) := by decide +kernel
theorem dX9_readSpeaker_21 : decode cX9_readSpeaker 21 = .ok (.invokevirtual 78, 3) := by decide +kernel
theorem dX9_readSpeaker_24 : decode cX9_readSpeaker 24 = .ok (.istore_n 2, 1) := by decide +kernel
theorem dX9_readSpeaker_25 : decode cX9_readSpeaker 25 = .ok (.aload_n 0, 1) := by decide +kernel
theorem dX9_readSpeaker_26 : decode cX9_readSpeaker 26 = .ok (.iconst 1, 1) := by decide +kernel
theorem dX9_readSpeaker_27 : decode cX9_readSpeaker 27 = .ok (.bipush 40, 2) := by decide +kernel
theorem dX9_readSpeaker_29 : decode cX9_readSpeaker 29 = .ok (.invokevirtual 78, 3) := by decide +kernel
theorem dX9_readSpeaker_32 : decode cX9_readSpeaker 32 = .ok (.istore_n 3, 1) := by decide +kernel
theorem dX9_readSpeaker_33 : decode cX9_readSpeaker 33 = .ok (.aload_n 0, 1) := by decide +kernel
theorem dX9_readSpeaker_34 : decode cX9_readSpeaker 34 = .ok (.iconst 0, 1) := by decide +kernel
theorem dX9_readSpeaker_35 : decode cX9_readSpeaker 35 = .ok (.bipush 99, 2) := by decide +kernel
theorem dX9_readSpeaker_37 : decode cX9_readSpeaker 37 = .ok (.invokevirtual 78, 3) := by decide +kernel
theorem dX9_readSpeaker_40 : decode cX9_readSpeaker 40 = .ok (.istore 4, 2) := by decide +kernel
theorem dX9_readSpeaker_42 : decode cX9_readSpeaker 42 = .ok (.aload_n 0, 1) := by decide +kernel
theorem dX9_readSpeaker_43 : decode cX9_readSpeaker 43 = .ok (.iconst 0, 1) := by decide +kernel
theorem dX9_readSpeaker_44 : decode cX9_readSpeaker 44 = .ok (.bipush 100, 2) := by decide +kernel
theorem dX9_readSpeaker_46 : decode cX9_readSpeaker 46 = .ok (.invokevirtual 78, 3) := by decide +kernel
theorem dX9_readSpeaker_49 : decode cX9_readSpeaker 49 = .ok (.istore 5, 2) := by decide +kernel
theorem dX9_readSpeaker_51 : decode cX9_readSpeaker 51 = .ok (.aload_n 0, 1) := by decide +kernel
theorem dX9_readSpeaker_52 : decode cX9_readSpeaker 52 = .ok (.invokevirtual 82, 3) := by decide +kernel
theorem dX9_readSpeaker_55 : decode cX9_readSpeaker 55 = .ok (.aload_n 0, 1) := by decide +kernel
theorem dX9_readSpeaker_56 : decode cX9_readSpeaker 56 = .ok (.getfield 15, 3) := by decide +kernel
theorem dX9_readSpeaker_59 : decode cX9_readSpeaker 59 = .ok (.ifCond .ne 13, 3) := by decide +kernel
theorem dX9_readSpeaker_62 : decode cX9_readSpeaker 62 = .ok (.aload_n 1, 1) := by decide +kernel
theorem dX9_readSpeaker_63 : decode cX9_readSpeaker 63 = .ok (.iload_n 2, 1) := by decide +kernel
theorem dX9_readSpeaker_64 : decode cX9_readSpeaker 64 = .ok (.iload_n 3, 1) := by decide +kernel
theorem dX9_readSpeaker_65 : decode cX9_readSpeaker 65 = .ok (.iload 4, 2) := by decide +kernel
theorem dX9_readSpeaker_67 : decode cX9_readSpeaker 67 = .ok (.iload 5, 2) := by decide +kernel
theorem dX9_readSpeaker_69 : decode cX9_readSpeaker 69 = .ok (.invokevirtual 106, 3) := by decide +kernel
theorem dX9_readSpeaker_72 : decode cX9_readSpeaker 72 = .ok (.return_, 1) := by decide +kernel
theorem dX9_readBar_0 : decode cX9_readBar 0 = .ok (.aload_n 0, 1) := by decide +kernel
theorem dX9_readBar_1 : decode cX9_readBar 1 = .ok (.aload_n 1, 1) := by decide +kernel
theorem dX9_readBar_2 : decode cX9_readBar 2 = .ok (.getfield 110, 3) := by decide +kernel
theorem dX9_readBar_5 : decode cX9_readBar 5 = .ok (.bipush 6, 2) := by decide +kernel
theorem dX9_readBar_7 : decode cX9_readBar 7 = .ok (.if_icmp .ge 7, 3) := by decide +kernel
theorem dX9_readBar_10 : decode cX9_readBar 10 = .ok (.iconst 1, 1) := by decide +kernel
theorem dX9_readBar_11 : decode cX9_readBar 11 = .ok (.goto 4, 3) := by decide +kernel
theorem dX9_readBar_14 : decode cX9_readBar 14 = .ok (.iconst 0, 1) := by decide +kernel
theorem dX9_readBar_15 : decode cX9_readBar 15 = .ok (.invokevirtual 74, 3) := by decide +kernel
theorem dX9_readBar_18 : decode cX9_readBar 18 = .ok (.aload_n 0, 1) := by decide +kernel
theorem dX9_readBar_19 : decode cX9_readBar 19 = .ok (.iconst 0, 1) := by decide +kernel
theorem dX9_readBar_20 : decode cX9_readBar 20 = .ok (.aload_n 1, 1) := by decide +kernel
theorem dX9_readBar_21 : decode cX9_readBar 21 = .ok (.getfield 88, 3) := by decide +kernel
theorem dX9_readBar_24 : decode cX9_readBar 24 = .ok (.iconst 1, 1) := by decide +kernel
theorem dX9_readBar_25 : decode cX9_readBar 25 = .ok (.isub, 1) := by decide +kernel
theorem dX9_readBar_26 : decode cX9_readBar 26 = .ok (.invokevirtual 78, 3) := by decide +kernel
theorem dX9_readBar_29 : decode cX9_readBar 29 = .ok (.istore_n 2, 1) := by decide +kernel
theorem dX9_readBar_30 : decode cX9_readBar 30 = .ok (.aload_n 0, 1) := by decide +kernel
theorem dX9_readBar_31 : decode cX9_readBar 31 = .ok (.iconst 0, 1) := by decide +kernel
theorem dX9_readBar_32 : decode cX9_readBar 32 = .ok (.aload_n 1, 1) := by decide +kernel
theorem dX9_readBar_33 : decode cX9_readBar 33 = .ok (.getfield 88, 3) := by decide +kernel
theorem dX9_readBar_36 : decode cX9_readBar 36 = .ok (.iconst 1, 1) := by decide +kernel
theorem dX9_readBar_37 : decode cX9_readBar 37 = .ok (.isub, 1) := by decide +kernel
theorem dX9_readBar_38 : decode cX9_readBar 38 = .ok (.invokevirtual 78, 3) := by decide +kernel
theorem dX9_readBar_41 : decode cX9_readBar 41 = .ok (.istore_n 3, 1) := by decide +kernel
theorem dX9_readBar_42 : decode cX9_readBar 42 = .ok (.aload_n 0, 1) := by decide +kernel
theorem dX9_readBar_43 : decode cX9_readBar 43 = .ok (.getfield 15, 3) := by decide +kernel
theorem dX9_readBar_46 : decode cX9_readBar 46 = .ok (.ifCond .ne 21, 3) := by decide +kernel
theorem dX9_readBar_49 : decode cX9_readBar 49 = .ok (.aload_n 1, 1) := by decide +kernel
theorem dX9_readBar_50 : decode cX9_readBar 50 = .ok (.iload_n 2, 1) := by decide +kernel
theorem dX9_readBar_51 : decode cX9_readBar 51 = .ok (.iload_n 3, 1) := by decide +kernel
theorem dX9_readBar_52 : decode cX9_readBar 52 = .ok (.invokevirtual 113, 3) := by decide +kernel
theorem dX9_readBar_55 : decode cX9_readBar 55 = .ok (.ifCond .eq 12, 3) := by decide +kernel
theorem dX9_readBar_58 : decode cX9_readBar 58 = .ok (.aload_n 0, 1) := by decide +kernel
theorem dX9_readBar_59 : decode cX9_readBar 59 = .ok (.iconst 4, 1) := by decide +kernel
theorem dX9_readBar_60 : decode cX9_readBar 60 = .ok (.aload_n 0, 1) := by decide +kernel
theorem dX9_readBar_61 : decode cX9_readBar 61 = .ok (.getfield 117, 3) := by decide +kernel
theorem dX9_readBar_64 : decode cX9_readBar 64 = .ok (.invokevirtual 49, 3) := by decide +kernel
theorem dX9_readBar_67 : decode cX9_readBar 67 = .ok (.aload_n 0, 1) := by decide +kernel
theorem dX9_readBar_68 : decode cX9_readBar 68 = .ok (.invokevirtual 82, 3) := by decide +kernel
theorem dX9_readBar_71 : decode cX9_readBar 71 = .ok (.aload_n 0, 1) := by decide +kernel
theorem dX9_readBar_72 : decode cX9_readBar 72 = .ok (.getfield 15, 3) := by decide +kernel
theorem dX9_readBar_75 : decode cX9_readBar 75 = .ok (.ifCond .ne 9, 3) := by decide +kernel
theorem dX9_readBar_78 : decode cX9_readBar 78 = .ok (.aload_n 1, 1) := by decide +kernel
theorem dX9_readBar_79 : decode cX9_readBar 79 = .ok (.iload_n 2, 1) := by decide +kernel
theorem dX9_readBar_80 : decode cX9_readBar 80 = .ok (.iload_n 3, 1) := by decide +kernel
theorem dX9_readBar_81 : decode cX9_readBar 81 = .ok (.invokevirtual 120, 3) := by decide +kernel
theorem dX9_readBar_84 : decode cX9_readBar 84 = .ok (.return_, 1) := by decide +kernel
theorem dX9_readWord_0 : decode cX9_readWord 0 = .ok (.iload_n 1, 1) := by decide +kernel
theorem dX9_readWord_1 : decode cX9_readWord 1 = .ok (.ifCond .ne 12, 3) := by decide +kernel
theorem dX9_readWord_4 : decode cX9_readWord 4 = .ok (.aload_n 0, 1) := by decide +kernel
theorem dX9_readWord_5 : decode cX9_readWord 5 = .ok (.iconst 3, 1) := by decide +kernel
theorem dX9_readWord_6 : decode cX9_readWord 6 = .ok (.aload_n 0, 1) := by decide +kernel
theorem dX9_readWord_7 : decode cX9_readWord 7 = .ok (.getfield 25, 3) := by decide +kernel
theorem dX9_readWord_10 : decode cX9_readWord 10 = .ok (.invokevirtual 49, 3) := by decide +kernel
theorem dX9_readWord_13 : decode cX9_readWord 13 = .ok (.aload_n 0, 1) := by decide +kernel
theorem dX9_readWord_14 : decode cX9_readWord 14 = .ok (.dup, 1) := by decide +kernel
theorem dX9_readWord_15 : decode cX9_readWord 15 = .ok (.getfield 25, 3) := by decide +kernel
theorem dX9_readWord_18 : decode cX9_readWord 18 = .ok (.iconst 1, 1) := by decide +kernel
theorem dX9_readWord_19 : decode cX9_readWord 19 = .ok (.iadd, 1) := by decide +kernel
theorem dX9_readWord_20 : decode cX9_readWord 20 = .ok (.putfield 25, 3) := by decide +kernel
theorem dX9_readWord_23 : decode cX9_readWord 23 = .ok (.return_, 1) := by decide +kernel
theorem dX9_readNumber_0 : decode cX9_readNumber 0 = .ok (.aload_n 0, 1) := by decide +kernel
theorem dX9_readNumber_1 : decode cX9_readNumber 1 = .ok (.invokevirtual 33, 3) := by decide +kernel
theorem dX9_readNumber_4 : decode cX9_readNumber 4 = .ok (.aload_n 0, 1) := by decide +kernel
theorem dX9_readNumber_5 : decode cX9_readNumber 5 = .ok (.aload_n 0, 1) := by decide +kernel
theorem dX9_readNumber_6 : decode cX9_readNumber 6 = .ok (.getfield 25, 3) := by decide +kernel
theorem dX9_readNumber_9 : decode cX9_readNumber 9 = .ok (.putfield 117, 3) := by decide +kernel
theorem dX9_readNumber_12 : decode cX9_readNumber 12 = .ok (.iconst 0, 1) := by decide +kernel
theorem dX9_readNumber_13 : decode cX9_readNumber 13 = .ok (.istore_n 3, 1) := by decide +kernel
theorem dX9_readNumber_14 : decode cX9_readNumber 14 = .ok (.aload_n 0, 1) := by decide +kernel
theorem dX9_readNumber_15 : decode cX9_readNumber 15 = .ok (.getfield 25, 3) := by decide +kernel
theorem dX9_readNumber_18 : decode cX9_readNumber 18 = .ok (.istore 4, 2) := by decide +kernel
theorem dX9_readNumber_20 : decode cX9_readNumber 20 = .ok (.iload 4, 2) := by decide +kernel
theorem dX9_readNumber_22 : decode cX9_readNumber 22 = .ok (.aload_n 0, 1) := by decide +kernel
theorem dX9_readNumber_23 : decode cX9_readNumber 23 = .ok (.getfield 22, 3) := by decide +kernel
theorem dX9_readNumber_26 : decode cX9_readNumber 26 = .ok (.if_icmp .ge 68, 3) := by decide +kernel
theorem dX9_readNumber_29 : decode cX9_readNumber 29 = .ok (.aload_n 0, 1) := by decide +kernel
theorem dX9_readNumber_30 : decode cX9_readNumber 30 = .ok (.getfield 9, 3) := by decide +kernel
theorem dX9_readNumber_33 : decode cX9_readNumber 33 = .ok (.iload 4, 2) := by decide +kernel
theorem dX9_readNumber_35 : decode cX9_readNumber 35 = .ok (.caload, 1) := by decide +kernel
theorem dX9_readNumber_36 : decode cX9_readNumber 36 = .ok (.bipush 48, 2) := by decide +kernel
theorem dX9_readNumber_38 : decode cX9_readNumber 38 = .ok (.if_icmp .lt 56, 3) := by decide +kernel
theorem dX9_readNumber_41 : decode cX9_readNumber 41 = .ok (.aload_n 0, 1) := by decide +kernel
theorem dX9_readNumber_42 : decode cX9_readNumber 42 = .ok (.getfield 9, 3) := by decide +kernel
theorem dX9_readNumber_45 : decode cX9_readNumber 45 = .ok (.iload 4, 2) := by decide +kernel
theorem dX9_readNumber_47 : decode cX9_readNumber 47 = .ok (.caload, 1) := by decide +kernel
theorem dX9_readNumber_48 : decode cX9_readNumber 48 = .ok (.bipush 57, 2) := by decide +kernel
theorem dX9_readNumber_50 : decode cX9_readNumber 50 = .ok (.if_icmp .gt 44, 3) := by decide +kernel
theorem dX9_readNumber_53 : decode cX9_readNumber 53 = .ok (.iload 4, 2) := by decide +kernel
theorem dX9_readNumber_55 : decode cX9_readNumber 55 = .ok (.aload_n 0, 1) := by decide +kernel
theorem dX9_readNumber_56 : decode cX9_readNumber 56 = .ok (.getfield 117, 3) := by decide +kernel
theorem dX9_readNumber_59 : decode cX9_readNumber 59 = .ok (.isub, 1) := by decide +kernel
theorem dX9_readNumber_60 : decode cX9_readNumber 60 = .ok (.iconst 3, 1) := by decide +kernel
theorem dX9_readNumber_61 : decode cX9_readNumber 61 = .ok (.if_icmp .ge 19, 3) := by decide +kernel
theorem dX9_readNumber_64 : decode cX9_readNumber 64 = .ok (.iload_n 3, 1) := by decide +kernel
theorem dX9_readNumber_65 : decode cX9_readNumber 65 = .ok (.bipush 10, 2) := by decide +kernel
theorem dX9_readNumber_67 : decode cX9_readNumber 67 = .ok (.imul, 1) := by decide +kernel
theorem dX9_readNumber_68 : decode cX9_readNumber 68 = .ok (.aload_n 0, 1) := by decide +kernel
theorem dX9_readNumber_69 : decode cX9_readNumber 69 = .ok (.getfield 9, 3) := by decide +kernel
theorem dX9_readNumber_72 : decode cX9_readNumber 72 = .ok (.iload 4, 2) := by decide +kernel
theorem dX9_readNumber_74 : decode cX9_readNumber 74 = .ok (.caload, 1) := by decide +kernel
theorem dX9_readNumber_75 : decode cX9_readNumber 75 = .ok (.iadd, 1) := by decide +kernel
theorem dX9_readNumber_76 : decode cX9_readNumber 76 = .ok (.bipush 48, 2) := by decide +kernel
theorem dX9_readNumber_78 : decode cX9_readNumber 78 = .ok (.isub, 1) := by decide +kernel
theorem dX9_readNumber_79 : decode cX9_readNumber 79 = .ok (.istore_n 3, 1) := by decide +kernel
theorem dX9_readNumber_80 : decode cX9_readNumber 80 = .ok (.aload_n 0, 1) := by decide +kernel
theorem dX9_readNumber_81 : decode cX9_readNumber 81 = .ok (.iload 4, 2) := by decide +kernel
theorem dX9_readNumber_83 : decode cX9_readNumber 83 = .ok (.iconst 1, 1) := by decide +kernel
theorem dX9_readNumber_84 : decode cX9_readNumber 84 = .ok (.iadd, 1) := by decide +kernel
theorem dX9_readNumber_85 : decode cX9_readNumber 85 = .ok (.putfield 25, 3) := by decide +kernel
theorem dX9_readNumber_88 : decode cX9_readNumber 88 = .ok (.iinc 4 1, 3) := by decide +kernel
theorem dX9_readNumber_91 : decode cX9_readNumber 91 = .ok (.goto (-71), 3) := by decide +kernel
theorem dX9_readNumber_94 : decode cX9_readNumber 94 = .ok (.aload_n 0, 1) := by decide +kernel
theorem dX9_readNumber_95 : decode cX9_readNumber 95 = .ok (.getfield 25, 3) := by decide +kernel
theorem dX9_readNumber_98 : decode cX9_readNumber 98 = .ok (.aload_n 0, 1) := by decide +kernel
theorem dX9_readNumber_99 : decode cX9_readNumber 99 = .ok (.getfield 117, 3) := by decide +kernel
theorem dX9_readNumber_102 : decode cX9_readNumber 102 = .ok (.if_icmp .ne 15, 3) := by decide +kernel
theorem dX9_readNumber_105 : decode cX9_readNumber 105 = .ok (.aload_n 0, 1) := by decide +kernel
theorem dX9_readNumber_106 : decode cX9_readNumber 106 = .ok (.iconst 1, 1) := by decide +kernel
theorem dX9_readNumber_107 : decode cX9_readNumber 107 = .ok (.aload_n 0, 1) := by decide +kernel
theorem dX9_readNumber_108 : decode cX9_readNumber 108 = .ok (.getfield 25, 3) := by decide +kernel
theorem dX9_readNumber_111 : decode cX9_readNumber 111 = .ok (.invokevirtual 49, 3) := by decide +kernel
theorem dX9_readNumber_114 : decode cX9_readNumber 114 = .ok (.goto 35, 3) := by decide +kernel
theorem dX9_readNumber_117 : decode cX9_readNumber 117 = .ok (.aload_n 0, 1) := by decide +kernel
theorem dX9_readNumber_118 : decode cX9_readNumber 118 = .ok (.getfield 25, 3) := by decide +kernel
theorem dX9_readNumber_121 : decode cX9_readNumber 121 = .ok (.aload_n 0, 1) := by decide +kernel
theorem dX9_readNumber_122 : decode cX9_readNumber 122 = .ok (.getfield 117, 3) := by decide +kernel
theorem dX9_readNumber_125 : decode cX9_readNumber 125 = .ok (.isub, 1) := by decide +kernel
theorem dX9_readNumber_126 : decode cX9_readNumber 126 = .ok (.iconst 3, 1) := by decide +kernel
theorem dX9_readNumber_127 : decode cX9_readNumber 127 = .ok (.if_icmp .gt 13, 3) := by decide +kernel
theorem dX9_readNumber_130 : decode cX9_readNumber 130 = .ok (.iload_n 3, 1) := by decide +kernel
theorem dX9_readNumber_131 : decode cX9_readNumber 131 = .ok (.iload_n 1, 1) := by decide +kernel
theorem dX9_readNumber_132 : decode cX9_readNumber 132 = .ok (.if_icmp .lt 8, 3) := by decide +kernel
theorem dX9_readNumber_135 : decode cX9_readNumber 135 = .ok (.iload_n 3, 1) := by decide +kernel
theorem dX9_readNumber_136 : decode cX9_readNumber 136 = .ok (.iload_n 2, 1) := by decide +kernel
theorem dX9_readNumber_137 : decode cX9_readNumber 137 = .ok (.if_icmp .le 12, 3) := by decide +kernel
theorem dX9_readNumber_140 : decode cX9_readNumber 140 = .ok (.aload_n 0, 1) := by decide +kernel
theorem dX9_readNumber_141 : decode cX9_readNumber 141 = .ok (.iconst 2, 1) := by decide +kernel
theorem dX9_readNumber_142 : decode cX9_readNumber 142 = .ok (.aload_n 0, 1) := by decide +kernel
theorem dX9_readNumber_143 : decode cX9_readNumber 143 = .ok (.getfield 117, 3) := by decide +kernel
theorem dX9_readNumber_146 : decode cX9_readNumber 146 = .ok (.invokevirtual 49, 3) := by decide +kernel
theorem dX9_readNumber_149 : decode cX9_readNumber 149 = .ok (.iload_n 3, 1) := by decide +kernel
theorem dX9_readNumber_150 : decode cX9_readNumber 150 = .ok (.ireturn, 1) := by decide +kernel
theorem dX9_readEnd_0 : decode cX9_readEnd 0 = .ok (.aload_n 0, 1) := by decide +kernel
theorem dX9_readEnd_1 : decode cX9_readEnd 1 = .ok (.invokevirtual 33, 3) := by decide +kernel
theorem dX9_readEnd_4 : decode cX9_readEnd 4 = .ok (.aload_n 0, 1) := by decide +kernel
theorem dX9_readEnd_5 : decode cX9_readEnd 5 = .ok (.getfield 25, 3) := by decide +kernel
theorem dX9_readEnd_8 : decode cX9_readEnd 8 = .ok (.aload_n 0, 1) := by decide +kernel
theorem dX9_readEnd_9 : decode cX9_readEnd 9 = .ok (.getfield 22, 3) := by decide +kernel
theorem dX9_readEnd_12 : decode cX9_readEnd 12 = .ok (.if_icmp .ge 17, 3) := by decide +kernel
theorem dX9_readEnd_15 : decode cX9_readEnd 15 = .ok (.aload_n 0, 1) := by decide +kernel
theorem dX9_readEnd_16 : decode cX9_readEnd 16 = .ok (.getfield 9, 3) := by decide +kernel
theorem dX9_readEnd_19 : decode cX9_readEnd 19 = .ok (.aload_n 0, 1) := by decide +kernel
theorem dX9_readEnd_20 : decode cX9_readEnd 20 = .ok (.getfield 25, 3) := by decide +kernel
theorem dX9_readEnd_23 : decode cX9_readEnd 23 = .ok (.caload, 1) := by decide +kernel
theorem dX9_readEnd_24 : decode cX9_readEnd 24 = .ok (.bipush 59, 2) := by decide +kernel
theorem dX9_readEnd_26 : decode cX9_readEnd 26 = .ok (.if_icmp .eq 12, 3) := by decide +kernel
theorem dX9_readEnd_29 : decode cX9_readEnd 29 = .ok (.aload_n 0, 1) := by decide +kernel
theorem dX9_readEnd_30 : decode cX9_readEnd 30 = .ok (.iconst 1, 1) := by decide +kernel
theorem dX9_readEnd_31 : decode cX9_readEnd 31 = .ok (.aload_n 0, 1) := by decide +kernel
theorem dX9_readEnd_32 : decode cX9_readEnd 32 = .ok (.getfield 25, 3) := by decide +kernel
theorem dX9_readEnd_35 : decode cX9_readEnd 35 = .ok (.invokevirtual 49, 3) := by decide +kernel
theorem dX9_readEnd_38 : decode cX9_readEnd 38 = .ok (.aload_n 0, 1) := by decide +kernel
theorem dX9_readEnd_39 : decode cX9_readEnd 39 = .ok (.dup, 1) := by decide +kernel
theorem dX9_readEnd_40 : decode cX9_readEnd 40 = .ok (.getfield 25, 3) := by decide +kernel
theorem dX9_readEnd_43 : decode cX9_readEnd 43 = .ok (.iconst 1, 1) := by decide +kernel
theorem dX9_readEnd_44 : decode cX9_readEnd 44 = .ok (.iadd, 1) := by decide +kernel
theorem dX9_readEnd_45 : decode cX9_readEnd 45 = .ok (.putfield 25, 3) := by decide +kernel
theorem dX9_readEnd_48 : decode cX9_readEnd 48 = .ok (.return_, 1) := by decide +kernel
theorem dX9_skipBlanks_0 : decode cX9_skipBlanks 0 = .ok (.aload_n 0, 1) := by decide +kernel
theorem dX9_skipBlanks_1 : decode cX9_skipBlanks 1 = .ok (.getfield 25, 3) := by decide +kernel
theorem dX9_skipBlanks_4 : decode cX9_skipBlanks 4 = .ok (.istore_n 1, 1) := by decide +kernel
theorem dX9_skipBlanks_5 : decode cX9_skipBlanks 5 = .ok (.iload_n 1, 1) := by decide +kernel
theorem dX9_skipBlanks_6 : decode cX9_skipBlanks 6 = .ok (.aload_n 0, 1) := by decide +kernel
theorem dX9_skipBlanks_7 : decode cX9_skipBlanks 7 = .ok (.getfield 22, 3) := by decide +kernel
theorem dX9_skipBlanks_10 : decode cX9_skipBlanks 10 = .ok (.if_icmp .ge 27, 3) := by decide +kernel
theorem dX9_skipBlanks_13 : decode cX9_skipBlanks 13 = .ok (.aload_n 0, 1) := by decide +kernel
theorem dX9_skipBlanks_14 : decode cX9_skipBlanks 14 = .ok (.getfield 9, 3) := by decide +kernel
theorem dX9_skipBlanks_17 : decode cX9_skipBlanks 17 = .ok (.iload_n 1, 1) := by decide +kernel
theorem dX9_skipBlanks_18 : decode cX9_skipBlanks 18 = .ok (.caload, 1) := by decide +kernel
theorem dX9_skipBlanks_19 : decode cX9_skipBlanks 19 = .ok (.bipush 32, 2) := by decide +kernel
theorem dX9_skipBlanks_21 : decode cX9_skipBlanks 21 = .ok (.if_icmp .ne 16, 3) := by decide +kernel
theorem dX9_skipBlanks_24 : decode cX9_skipBlanks 24 = .ok (.aload_n 0, 1) := by decide +kernel
theorem dX9_skipBlanks_25 : decode cX9_skipBlanks 25 = .ok (.iload_n 1, 1) := by decide +kernel
theorem dX9_skipBlanks_26 : decode cX9_skipBlanks 26 = .ok (.iconst 1, 1) := by decide +kernel
theorem dX9_skipBlanks_27 : decode cX9_skipBlanks 27 = .ok (.iadd, 1) := by decide +kernel
theorem dX9_skipBlanks_28 : decode cX9_skipBlanks 28 = .ok (.putfield 25, 3) := by decide +kernel
theorem dX9_skipBlanks_31 : decode cX9_skipBlanks 31 = .ok (.iinc 1 1, 3) := by decide +kernel
theorem dX9_skipBlanks_34 : decode cX9_skipBlanks 34 = .ok (.goto (-29), 3) := by decide +kernel
theorem dX9_skipBlanks_37 : decode cX9_skipBlanks 37 = .ok (.return_, 1) := by decide +kernel
theorem dX9_fail_0 : decode cX9_fail 0 = .ok (.aload_n 0, 1) := by decide +kernel
theorem dX9_fail_1 : decode cX9_fail 1 = .ok (.getfield 15, 3) := by decide +kernel
theorem dX9_fail_4 : decode cX9_fail 4 = .ok (.ifCond .ne 13, 3) := by decide +kernel
theorem dX9_fail_7 : decode cX9_fail 7 = .ok (.aload_n 0, 1) := by decide +kernel
theorem dX9_fail_8 : decode cX9_fail 8 = .ok (.iload_n 1, 1) := by decide +kernel
theorem dX9_fail_9 : decode cX9_fail 9 = .ok (.putfield 15, 3) := by decide +kernel
theorem dX9_fail_12 : decode cX9_fail 12 = .ok (.aload_n 0, 1) := by decide +kernel
theorem dX9_fail_13 : decode cX9_fail 13 = .ok (.iload_n 2, 1) := by decide +kernel
theorem dX9_fail_14 : decode cX9_fail 14 = .ok (.putfield 19, 3) := by decide +kernel
theorem dX9_fail_17 : decode cX9_fail 17 = .ok (.return_, 1) := by decide +kernel
theorem dX10_init_0 : decode cX10_init 0 = .ok (.aload_n 0, 1) := by decide +kernel
theorem dX10_init_1 : decode cX10_init 1 = .ok (.invokespecial 1, 3) := by decide +kernel
theorem dX10_init_4 : decode cX10_init 4 = .ok (.aload_n 0, 1) := by decide +kernel
theorem dX10_init_5 : decode cX10_init 5 = .ok (.new 7, 3) := by decide +kernel
theorem dX10_init_8 : decode cX10_init 8 = .ok (.dup, 1) := by decide +kernel
theorem dX10_init_9 : decode cX10_init 9 = .ok (.invokespecial 9, 3) := by decide +kernel
theorem dX10_init_12 : decode cX10_init 12 = .ok (.putfield 10, 3) := by decide +kernel
theorem dX10_init_15 : decode cX10_init 15 = .ok (.aload_n 0, 1) := by decide +kernel
theorem dX10_init_16 : decode cX10_init 16 = .ok (.new 16, 3) := by decide +kernel
theorem dX10_init_19 : decode cX10_init 19 = .ok (.dup, 1) := by decide +kernel
theorem dX10_init_20 : decode cX10_init 20 = .ok (.invokespecial 18, 3) := by decide +kernel
theorem dX10_init_23 : decode cX10_init 23 = .ok (.putfield 19, 3) := by decide +kernel
theorem dX10_init_26 : decode cX10_init 26 = .ok (.aload_n 0, 1) := by decide +kernel
theorem dX10_init_27 : decode cX10_init 27 = .ok (.new 23, 3) := by decide +kernel
theorem dX10_init_30 : decode cX10_init 30 = .ok (.dup, 1) := by decide +kernel
theorem dX10_init_31 : decode cX10_init 31 = .ok (.invokespecial 25, 3) := by decide +kernel
theorem dX10_init_34 : decode cX10_init 34 = .ok (.putfield 26, 3) := by decide +kernel
theorem dX10_init_37 : decode cX10_init 37 = .ok (.aload_n 0, 1) := by decide +kernel
theorem dX10_init_38 : decode cX10_init 38 = .ok (.iconst 2, 1) := by decide +kernel
theorem dX10_init_39 : decode cX10_init 39 = .ok (.anewarray 30, 3) := by decide +kernel
theorem dX10_init_42 : decode cX10_init 42 = .ok (.putfield 32, 3) := by decide +kernel
theorem dX10_init_45 : decode cX10_init 45 = .ok (.aload_n 0, 1) := by decide +kernel
theorem dX10_init_46 : decode cX10_init 46 = .ok (.new 36, 3) := by decide +kernel
theorem dX10_init_49 : decode cX10_init 49 = .ok (.dup, 1) := by decide +kernel
theorem dX10_init_50 : decode cX10_init 50 = .ok (.invokespecial 38, 3) := by decide +kernel
theorem dX10_init_53 : decode cX10_init 53 = .ok (.putfield 39, 3) := by decide +kernel
theorem dX10_init_56 : decode cX10_init 56 = .ok (.aload_n 0, 1) := by decide +kernel
theorem dX10_init_57 : decode cX10_init 57 = .ok (.new 43, 3) := by decide +kernel
theorem dX10_init_60 : decode cX10_init 60 = .ok (.dup, 1) := by decide +kernel
theorem dX10_init_61 : decode cX10_init 61 = .ok (.invokespecial 45, 3) := by decide +kernel
theorem dX10_init_64 : decode cX10_init 64 = .ok (.putfield 46, 3) := by decide +kernel
theorem dX10_init_67 : decode cX10_init 67 = .ok (.aload_n 0, 1) := by decide +kernel
theorem dX10_init_68 : decode cX10_init 68 = .ok (.bipush 8, 2) := by decide +kernel
theorem dX10_init_70 : decode cX10_init 70 = .ok (.newarray .int, 2) := by decide +kernel
theorem dX10_init_72 : decode cX10_init 72 = .ok (.putfield 50, 3) := by decide +kernel
theorem dX10_init_75 : decode cX10_init 75 = .ok (.aload_n 0, 1) := by decide +kernel
theorem dX10_init_76 : decode cX10_init 76 = .ok (.bipush 15, 2) := by decide +kernel
theorem dX10_init_78 : decode cX10_init 78 = .ok (.newarray .int, 2) := by decide +kernel
theorem dX10_init_80 : decode cX10_init 80 = .ok (.putfield 54, 3) := by decide +kernel
theorem dX10_init_83 : decode cX10_init 83 = .ok (.aload_n 0, 1) := by decide +kernel
theorem dX10_init_84 : decode cX10_init 84 = .ok (.bipush 15, 2) := by decide +kernel
theorem dX10_init_86 : decode cX10_init 86 = .ok (.newarray .int, 2) := by decide +kernel
theorem dX10_init_88 : decode cX10_init 88 = .ok (.putfield 57, 3) := by decide +kernel
theorem dX10_init_91 : decode cX10_init 91 = .ok (.aload_n 0, 1) := by decide +kernel
theorem dX10_init_92 : decode cX10_init 92 = .ok (.new 60, 3) := by decide +kernel
theorem dX10_init_95 : decode cX10_init 95 = .ok (.dup, 1) := by decide +kernel
theorem dX10_init_96 : decode cX10_init 96 = .ok (.invokespecial 62, 3) := by decide +kernel
theorem dX10_init_99 : decode cX10_init 99 = .ok (.putfield 63, 3) := by decide +kernel
theorem dX10_init_102 : decode cX10_init 102 = .ok (.aload_n 0, 1) := by decide +kernel
theorem dX10_init_103 : decode cX10_init 103 = .ok (.new 67, 3) := by decide +kernel
theorem dX10_init_106 : decode cX10_init 106 = .ok (.dup, 1) := by decide +kernel
theorem dX10_init_107 : decode cX10_init 107 = .ok (.invokespecial 69, 3) := by decide +kernel
theorem dX10_init_110 : decode cX10_init 110 = .ok (.putfield 70, 3) := by decide +kernel
theorem dX10_init_113 : decode cX10_init 113 = .ok (.aload_n 0, 1) := by decide +kernel
theorem dX10_init_114 : decode cX10_init 114 = .ok (.new 67, 3) := by decide +kernel
theorem dX10_init_117 : decode cX10_init 117 = .ok (.dup, 1) := by decide +kernel
theorem dX10_init_118 : decode cX10_init 118 = .ok (.invokespecial 69, 3) := by decide +kernel
theorem dX10_init_121 : decode cX10_init 121 = .ok (.putfield 74, 3) := by decide +kernel
theorem dX10_init_124 : decode cX10_init 124 = .ok (.iconst 0, 1) := by decide +kernel
theorem dX10_init_125 : decode cX10_init 125 = .ok (.istore_n 1, 1) := by decide +kernel
theorem dX10_init_126 : decode cX10_init 126 = .ok (.iload_n 1, 1) := by decide +kernel
theorem dX10_init_127 : decode cX10_init 127 = .ok (.iconst 2, 1) := by decide +kernel
theorem dX10_init_128 : decode cX10_init 128 = .ok (.if_icmp .ge 22, 3) := by decide +kernel
theorem dX10_init_131 : decode cX10_init 131 = .ok (.aload_n 0, 1) := by decide +kernel
theorem dX10_init_132 : decode cX10_init 132 = .ok (.getfield 32, 3) := by decide +kernel
theorem dX10_init_135 : decode cX10_init 135 = .ok (.iload_n 1, 1) := by decide +kernel
theorem dX10_init_136 : decode cX10_init 136 = .ok (.new 30, 3) := by decide +kernel
theorem dX10_init_139 : decode cX10_init 139 = .ok (.dup, 1) := by decide +kernel
theorem dX10_init_140 : decode cX10_init 140 = .ok (.invokespecial 77, 3) := by decide +kernel
theorem dX10_init_143 : decode cX10_init 143 = .ok (.aastore, 1) := by decide +kernel
theorem dX10_init_144 : decode cX10_init 144 = .ok (.iinc 1 1, 3) := by decide +kernel
theorem dX10_init_147 : decode cX10_init 147 = .ok (.goto (-21), 3) := by decide +kernel
theorem dX10_init_150 : decode cX10_init 150 = .ok (.return_, 1) := by decide +kernel
theorem dX10_feed_0 : decode cX10_feed 0 = .ok (.iload_n 1, 1) := by decide +kernel
theorem dX10_feed_1 : decode cX10_feed 1 = .ok (.ifCond .lt 10, 3) := by decide +kernel
theorem dX10_feed_4 : decode cX10_feed 4 = .ok (.iload_n 1, 1) := by decide +kernel
theorem dX10_feed_5 : decode cX10_feed 5 = .ok (.sipush 255, 3) := by decide +kernel
theorem dX10_feed_8 : decode cX10_feed 8 = .ok (.if_icmp .le 6, 3) := by decide +kernel
theorem dX10_feed_11 : decode cX10_feed 11 = .ok (.ldc 78, 2) := by decide +kernel
theorem dX10_feed_13 : decode cX10_feed 13 = .ok (.ireturn, 1) := by decide +kernel
theorem dX10_feed_14 : decode cX10_feed 14 = .ok (.aload_n 0, 1) := by decide +kernel
theorem dX10_feed_15 : decode cX10_feed 15 = .ok (.getfield 10, 3) := by decide +kernel
theorem dX10_feed_18 : decode cX10_feed 18 = .ok (.getfield 79, 3) := by decide +kernel
theorem dX10_feed_21 : decode cX10_feed 21 = .ok (.sipush 250, 3) := by decide +kernel
theorem dX10_feed_24 : decode cX10_feed 24 = .ok (.if_icmp .lt 6, 3) := by decide +kernel
theorem dX10_feed_27 : decode cX10_feed 27 = .ok (.ldc 83, 2) := by decide +kernel
theorem dX10_feed_29 : decode cX10_feed 29 = .ok (.ireturn, 1) := by decide +kernel
theorem dX10_feed_30 : decode cX10_feed 30 = .ok (.aload_n 0, 1) := by decide +kernel
theorem dX10_feed_31 : decode cX10_feed 31 = .ok (.getfield 10, 3) := by decide +kernel
theorem dX10_feed_34 : decode cX10_feed 34 = .ok (.iload_n 1, 1) := by decide +kernel
theorem dX10_feed_35 : decode cX10_feed 35 = .ok (.invokevirtual 84, 3) := by decide +kernel
theorem dX10_feed_38 : decode cX10_feed 38 = .ok (.aload_n 0, 1) := by decide +kernel
theorem dX10_feed_39 : decode cX10_feed 39 = .ok (.getfield 10, 3) := by decide +kernel
theorem dX10_feed_42 : decode cX10_feed 42 = .ok (.getfield 79, 3) := by decide +kernel
theorem dX10_feed_45 : decode cX10_feed 45 = .ok (.ireturn, 1) := by decide +kernel
theorem dX10_feast_0 : decode cX10_feast 0 = .ok (.aload_n 0, 1) := by decide +kernel
theorem dX10_feast_1 : decode cX10_feast 1 = .ok (.getfield 10, 3) := by decide +kernel
theorem dX10_feast_4 : decode cX10_feast 4 = .ok (.aload_n 0, 1) := by decide +kernel
theorem dX10_feast_5 : decode cX10_feast 5 = .ok (.getfield 74, 3) := by decide +kernel
theorem dX10_feast_8 : decode cX10_feast 8 = .ok (.invokevirtual 88, 3) := by decide +kernel
theorem dX10_feast_11 : decode cX10_feast 11 = .ok (.aload_n 0, 1) := by decide +kernel
theorem dX10_feast_12 : decode cX10_feast 12 = .ok (.getfield 10, 3) := by decide +kernel
theorem dX10_feast_15 : decode cX10_feast 15 = .ok (.getfield 92, 3) := by decide +kernel
theorem dX10_feast_18 : decode cX10_feast 18 = .ok (.ifCond .eq 14, 3) := by decide +kernel
theorem dX10_feast_21 : decode cX10_feast 21 = .ok (.bipush (-10), 2) := by decide +kernel
theorem dX10_feast_23 : decode cX10_feast 23 = .ok (.aload_n 0, 1) := by decide +kernel
theorem dX10_feast_24 : decode cX10_feast 24 = .ok (.getfield 10, 3) := by decide +kernel
theorem dX10_feast_27 : decode cX10_feast 27 = .ok (.getfield 92, 3) := by decide +kernel
theorem dX10_feast_30 : decode cX10_feast 30 = .ok (.isub, 1) := by decide +kernel
theorem dX10_feast_31 : decode cX10_feast 31 = .ok (.ireturn, 1) := by decide +kernel
theorem dX10_feast_32 : decode cX10_feast 32 = .ok (.aload_n 0, 1) := by decide +kernel
theorem dX10_feast_33 : decode cX10_feast 33 = .ok (.getfield 70, 3) := by decide +kernel
theorem dX10_feast_36 : decode cX10_feast 36 = .ok (.astore_n 1, 1) := by decide +kernel
theorem dX10_feast_37 : decode cX10_feast 37 = .ok (.aload_n 0, 1) := by decide +kernel
theorem dX10_feast_38 : decode cX10_feast 38 = .ok (.aload_n 0, 1) := by decide +kernel
theorem dX10_feast_39 : decode cX10_feast 39 = .ok (.getfield 74, 3) := by decide +kernel
theorem dX10_feast_42 : decode cX10_feast 42 = .ok (.putfield 70, 3) := by decide +kernel
theorem dX10_feast_45 : decode cX10_feast 45 = .ok (.aload_n 0, 1) := by decide +kernel
theorem dX10_feast_46 : decode cX10_feast 46 = .ok (.aload_n 1, 1) := by decide +kernel
theorem dX10_feast_47 : decode cX10_feast 47 = .ok (.putfield 74, 3) := by decide +kernel
theorem dX10_feast_50 : decode cX10_feast 50 = .ok (.aload_n 0, 1) := by decide +kernel
theorem dX10_feast_51 : decode cX10_feast 51 = .ok (.getfield 70, 3) := by decide +kernel
theorem dX10_feast_54 : decode cX10_feast 54 = .ok (.getfield 95, 3) := by decide +kernel
theorem dX10_feast_57 : decode cX10_feast 57 = .ok (.invokevirtual 99, 3) := by decide +kernel
theorem dX10_feast_60 : decode cX10_feast 60 = .ok (.aload_n 0, 1) := by decide +kernel
theorem dX10_feast_61 : decode cX10_feast 61 = .ok (.getfield 19, 3) := by decide +kernel
theorem dX10_feast_64 : decode cX10_feast 64 = .ok (.aload_n 0, 1) := by decide +kernel
theorem dX10_feast_65 : decode cX10_feast 65 = .ok (.getfield 70, 3) := by decide +kernel
theorem dX10_feast_68 : decode cX10_feast 68 = .ok (.getfield 104, 3) := by decide +kernel
theorem dX10_feast_71 : decode cX10_feast 71 = .ok (.invokevirtual 108, 3) := by decide +kernel
theorem dX10_feast_74 : decode cX10_feast 74 = .ok (.aload_n 0, 1) := by decide +kernel
theorem dX10_feast_75 : decode cX10_feast 75 = .ok (.iconst 0, 1) := by decide +kernel
theorem dX10_feast_76 : decode cX10_feast 76 = .ok (.putfield 112, 3) := by decide +kernel
theorem dX10_feast_79 : decode cX10_feast 79 = .ok (.aload_n 0, 1) := by decide +kernel
theorem dX10_feast_80 : decode cX10_feast 80 = .ok (.iconst 0, 1) := by decide +kernel
theorem dX10_feast_81 : decode cX10_feast 81 = .ok (.putfield 115, 3) := by decide +kernel
theorem dX10_feast_84 : decode cX10_feast 84 = .ok (.aload_n 0, 1) := by decide +kernel
theorem dX10_feast_85 : decode cX10_feast 85 = .ok (.getfield 26, 3) := by decide +kernel
theorem dX10_feast_88 : decode cX10_feast 88 = .ok (.invokevirtual 118, 3) := by decide +kernel
theorem dX10_feast_91 : decode cX10_feast 91 = .ok (.iconst 0, 1) := by decide +kernel
theorem dX10_feast_92 : decode cX10_feast 92 = .ok (.istore_n 2, 1) := by decide +kernel
theorem dX10_feast_93 : decode cX10_feast 93 = .ok (.iload_n 2, 1) := by decide +kernel
theorem dX10_feast_94 : decode cX10_feast 94 = .ok (.iconst 2, 1) := by decide +kernel
theorem dX10_feast_95 : decode cX10_feast 95 = .ok (.if_icmp .ge 19, 3) := by decide +kernel
theorem dX10_feast_98 : decode cX10_feast 98 = .ok (.aload_n 0, 1) := by decide +kernel
theorem dX10_feast_99 : decode cX10_feast 99 = .ok (.getfield 32, 3) := by decide +kernel
theorem dX10_feast_102 : decode cX10_feast 102 = .ok (.iload_n 2, 1) := by decide +kernel
theorem dX10_feast_103 : decode cX10_feast 103 = .ok (.aaload, 1) := by decide +kernel
theorem dX10_feast_104 : decode cX10_feast 104 = .ok (.iconst 0, 1) := by decide +kernel
theorem dX10_feast_105 : decode cX10_feast 105 = .ok (.putfield 121, 3) := by decide +kernel
theorem dX10_feast_108 : decode cX10_feast 108 = .ok (.iinc 2 1, 3) := by decide +kernel
theorem dX10_feast_111 : decode cX10_feast 111 = .ok (.goto (-18), 3) := by decide +kernel
theorem dX10_feast_114 : decode cX10_feast 114 = .ok (.aload_n 0, 1) := by decide +kernel
theorem dX10_feast_115 : decode cX10_feast 115 = .ok (.getfield 70, 3) := by decide +kernel
theorem dX10_feast_118 : decode cX10_feast 118 = .ok (.getfield 104, 3) := by decide +kernel
theorem dX10_feast_121 : decode cX10_feast 121 = .ok (.getfield 125, 3) := by decide +kernel
theorem dX10_feast_124 : decode cX10_feast 124 = .ok (.ireturn, 1) := by decide +kernel
theorem dX10_fault_0 : decode cX10_fault 0 = .ok (.aload_n 0, 1) := by decide +kernel
theorem dX10_fault_1 : decode cX10_fault 1 = .ok (.getfield 10, 3) := by decide +kernel
theorem dX10_fault_4 : decode cX10_fault 4 = .ok (.getfield 130, 3) := by decide +kernel
theorem dX10_fault_7 : decode cX10_fault 7 = .ok (.ireturn, 1) := by decide +kernel
theorem dX10_told_0 : decode cX10_told 0 = .ok (.iload_n 1, 1) := by decide +kernel
theorem dX10_told_1 : decode cX10_told 1 = .ok (.tableswitch 168 0 11 #[63, 74, 85, 96, 107, 118, 126, 134, 142, 150, 155, 160], 63) := by decide +kernel
theorem dX10_told_64 : decode cX10_told 64 = .ok (.aload_n 0, 1) := by decide +kernel
theorem dX10_told_65 : decode cX10_told 65 = .ok (.getfield 70, 3) := by decide +kernel
theorem dX10_told_68 : decode cX10_told 68 = .ok (.getfield 95, 3) := by decide +kernel
theorem dX10_told_71 : decode cX10_told 71 = .ok (.getfield 133, 3) := by decide +kernel
theorem dX10_told_74 : decode cX10_told 74 = .ok (.ireturn, 1) := by decide +kernel
theorem dX10_told_75 : decode cX10_told 75 = .ok (.aload_n 0, 1) := by decide +kernel
theorem dX10_told_76 : decode cX10_told 76 = .ok (.getfield 70, 3) := by decide +kernel
theorem dX10_told_79 : decode cX10_told 79 = .ok (.getfield 95, 3) := by decide +kernel
theorem dX10_told_82 : decode cX10_told 82 = .ok (.getfield 136, 3) := by decide +kernel
theorem dX10_told_85 : decode cX10_told 85 = .ok (.ireturn, 1) := by decide +kernel
theorem dX10_told_86 : decode cX10_told 86 = .ok (.aload_n 0, 1) := by decide +kernel
theorem dX10_told_87 : decode cX10_told 87 = .ok (.getfield 70, 3) := by decide +kernel
theorem dX10_told_90 : decode cX10_told 90 = .ok (.getfield 95, 3) := by decide +kernel
theorem dX10_told_93 : decode cX10_told 93 = .ok (.getfield 139, 3) := by decide +kernel
theorem dX10_told_96 : decode cX10_told 96 = .ok (.ireturn, 1) := by decide +kernel
theorem dX10_told_97 : decode cX10_told 97 = .ok (.aload_n 0, 1) := by decide +kernel
theorem dX10_told_98 : decode cX10_told 98 = .ok (.getfield 70, 3) := by decide +kernel
theorem dX10_told_101 : decode cX10_told 101 = .ok (.getfield 95, 3) := by decide +kernel
theorem dX10_told_104 : decode cX10_told 104 = .ok (.getfield 142, 3) := by decide +kernel
theorem dX10_told_107 : decode cX10_told 107 = .ok (.ireturn, 1) := by decide +kernel
theorem dX10_told_108 : decode cX10_told 108 = .ok (.aload_n 0, 1) := by decide +kernel
theorem dX10_told_109 : decode cX10_told 109 = .ok (.getfield 70, 3) := by decide +kernel
theorem dX10_told_112 : decode cX10_told 112 = .ok (.getfield 104, 3) := by decide +kernel
theorem dX10_told_115 : decode cX10_told 115 = .ok (.getfield 125, 3) := by decide +kernel
theorem dX10_told_118 : decode cX10_told 118 = .ok (.ireturn, 1) := by decide +kernel
theorem dX10_told_119 : decode cX10_told 119 = .ok (.aload_n 0, 1) := by decide +kernel
theorem dX10_told_120 : decode cX10_told 120 = .ok (.getfield 10, 3) := by decide +kernel
theorem dX10_told_123 : decode cX10_told 123 = .ok (.getfield 79, 3) := by decide +kernel
theorem dX10_told_126 : decode cX10_told 126 = .ok (.ireturn, 1) := by decide +kernel
theorem dX10_told_127 : decode cX10_told 127 = .ok (.aload_n 0, 1) := by decide +kernel
theorem dX10_told_128 : decode cX10_told 128 = .ok (.getfield 19, 3) := by decide +kernel
theorem dX10_told_131 : decode cX10_told 131 = .ok (.getfield 145, 3) := by decide +kernel
theorem dX10_told_134 : decode cX10_told 134 = .ok (.ireturn, 1) := by decide +kernel
theorem dX10_told_135 : decode cX10_told 135 = .ok (.aload_n 0, 1) := by decide +kernel
theorem dX10_told_136 : decode cX10_told 136 = .ok (.getfield 19, 3) := by decide +kernel
theorem dX10_told_139 : decode cX10_told 139 = .ok (.getfield 148, 3) := by decide +kernel
theorem dX10_told_142 : decode cX10_told 142 = .ok (.ireturn, 1) := by decide +kernel
theorem dX10_told_143 : decode cX10_told 143 = .ok (.aload_n 0, 1) := by decide +kernel
theorem dX10_told_144 : decode cX10_told 144 = .ok (.getfield 19, 3) := by decide +kernel
theorem dX10_told_147 : decode cX10_told 147 = .ok (.getfield 151, 3) := by decide +kernel
theorem dX10_told_150 : decode cX10_told 150 = .ok (.ireturn, 1) := by decide +kernel
theorem dX10_told_151 : decode cX10_told 151 = .ok (.aload_n 0, 1) := by decide +kernel
theorem dX10_told_152 : decode cX10_told 152 = .ok (.getfield 112, 3) := by decide +kernel
theorem dX10_told_155 : decode cX10_told 155 = .ok (.ireturn, 1) := by decide +kernel
theorem dX10_told_156 : decode cX10_told 156 = .ok (.aload_n 0, 1) := by decide +kernel
theorem dX10_told_157 : decode cX10_told 157 = .ok (.getfield 115, 3) := by decide +kernel
theorem dX10_told_160 : decode cX10_told 160 = .ok (.ireturn, 1) := by decide +kernel
theorem dX10_told_161 : decode cX10_told 161 = .ok (.aload_n 0, 1) := by decide +kernel
theorem dX10_told_162 : decode cX10_told 162 = .ok (.getfield 26, 3) := by decide +kernel
theorem dX10_told_165 : decode cX10_told 165 = .ok (.getfield 154, 3) := by decide +kernel
theorem dX10_told_168 : decode cX10_told 168 = .ok (.ireturn, 1) := by decide +kernel
theorem dX10_told_169 : decode cX10_told 169 = .ok (.ldc 78, 2) := by decide +kernel
theorem dX10_told_171 : decode cX10_told 171 = .ok (.ireturn, 1) := by decide +kernel
theorem dX10_stem_0 : decode cX10_stem 0 = .ok (.iload_n 1, 1) := by decide +kernel
theorem dX10_stem_1 : decode cX10_stem 1 = .ok (.ifCond .lt 17, 3) := by decide +kernel
theorem dX10_stem_4 : decode cX10_stem 4 = .ok (.iload_n 1, 1) := by decide +kernel
theorem dX10_stem_5 : decode cX10_stem 5 = .ok (.aload_n 0, 1) := by decide +kernel
theorem dX10_stem_6 : decode cX10_stem 6 = .ok (.getfield 70, 3) := by decide +kernel
theorem dX10_stem_9 : decode cX10_stem 9 = .ok (.getfield 95, 3) := by decide +kernel
theorem dX10_stem_12 : decode cX10_stem 12 = .ok (.getfield 139, 3) := by decide +kernel
theorem dX10_stem_15 : decode cX10_stem 15 = .ok (.if_icmp .lt 6, 3) := by decide +kernel
theorem dX10_stem_18 : decode cX10_stem 18 = .ok (.ldc 155, 2) := by decide +kernel
theorem dX10_stem_20 : decode cX10_stem 20 = .ok (.ireturn, 1) := by decide +kernel
theorem dX10_stem_21 : decode cX10_stem 21 = .ok (.aload_n 0, 1) := by decide +kernel
theorem dX10_stem_22 : decode cX10_stem 22 = .ok (.getfield 70, 3) := by decide +kernel
theorem dX10_stem_25 : decode cX10_stem 25 = .ok (.getfield 95, 3) := by decide +kernel
theorem dX10_stem_28 : decode cX10_stem 28 = .ok (.getfield 156, 3) := by decide +kernel
theorem dX10_stem_31 : decode cX10_stem 31 = .ok (.iload_n 1, 1) := by decide +kernel
theorem dX10_stem_32 : decode cX10_stem 32 = .ok (.iaload, 1) := by decide +kernel
theorem dX10_stem_33 : decode cX10_stem 33 = .ok (.ireturn, 1) := by decide +kernel
theorem dX10_ending_0 : decode cX10_ending 0 = .ok (.iload_n 1, 1) := by decide +kernel
theorem dX10_ending_1 : decode cX10_ending 1 = .ok (.ifCond .lt 17, 3) := by decide +kernel
theorem dX10_ending_4 : decode cX10_ending 4 = .ok (.iload_n 1, 1) := by decide +kernel
theorem dX10_ending_5 : decode cX10_ending 5 = .ok (.aload_n 0, 1) := by decide +kernel
theorem dX10_ending_6 : decode cX10_ending 6 = .ok (.getfield 70, 3) := by decide +kernel
theorem dX10_ending_9 : decode cX10_ending 9 = .ok (.getfield 95, 3) := by decide +kernel
theorem dX10_ending_12 : decode cX10_ending 12 = .ok (.getfield 142, 3) := by decide +kernel
theorem dX10_ending_15 : decode cX10_ending 15 = .ok (.if_icmp .lt 6, 3) := by decide +kernel
theorem dX10_ending_18 : decode cX10_ending 18 = .ok (.ldc 155, 2) := by decide +kernel
theorem dX10_ending_20 : decode cX10_ending 20 = .ok (.ireturn, 1) := by decide +kernel
theorem dX10_ending_21 : decode cX10_ending 21 = .ok (.aload_n 0, 1) := by decide +kernel
theorem dX10_ending_22 : decode cX10_ending 22 = .ok (.getfield 70, 3) := by decide +kernel
theorem dX10_ending_25 : decode cX10_ending 25 = .ok (.getfield 95, 3) := by decide +kernel
theorem dX10_ending_28 : decode cX10_ending 28 = .ok (.getfield 159, 3) := by decide +kernel
theorem dX10_ending_31 : decode cX10_ending 31 = .ok (.iload_n 1, 1) := by decide +kernel
theorem dX10_ending_32 : decode cX10_ending 32 = .ok (.iaload, 1) := by decide +kernel
theorem dX10_ending_33 : decode cX10_ending 33 = .ok (.ireturn, 1) := by decide +kernel
theorem dX10_speaker_0 : decode cX10_speaker 0 = .ok (.iload_n 1, 1) := by decide +kernel
theorem dX10_speaker_1 : decode cX10_speaker 1 = .ok (.ifCond .lt 17, 3) := by decide +kernel
theorem dX10_speaker_4 : decode cX10_speaker 4 = .ok (.iload_n 1, 1) := by decide +kernel
theorem dX10_speaker_5 : decode cX10_speaker 5 = .ok (.aload_n 0, 1) := by decide +kernel
theorem dX10_speaker_6 : decode cX10_speaker 6 = .ok (.getfield 70, 3) := by decide +kernel
theorem dX10_speaker_9 : decode cX10_speaker 9 = .ok (.getfield 104, 3) := by decide +kernel
theorem dX10_speaker_12 : decode cX10_speaker 12 = .ok (.getfield 125, 3) := by decide +kernel
theorem dX10_speaker_15 : decode cX10_speaker 15 = .ok (.if_icmp .lt 6, 3) := by decide +kernel
theorem dX10_speaker_18 : decode cX10_speaker 18 = .ok (.ldc 155, 2) := by decide +kernel
theorem dX10_speaker_20 : decode cX10_speaker 20 = .ok (.ireturn, 1) := by decide +kernel
theorem dX10_speaker_21 : decode cX10_speaker 21 = .ok (.iload_n 2, 1) := by decide +kernel
theorem dX10_speaker_22 : decode cX10_speaker 22 = .ok (.tableswitch 96 0 4 #[34, 47, 60, 70, 83], 34) := by decide +kernel
theorem dX10_speaker_56 : decode cX10_speaker 56 = .ok (.aload_n 0, 1) := by decide +kernel
theorem dX10_speaker_57 : decode cX10_speaker 57 = .ok (.getfield 70, 3) := by decide +kernel
theorem dX10_speaker_60 : decode cX10_speaker 60 = .ok (.getfield 104, 3) := by decide +kernel
theorem dX10_speaker_63 : decode cX10_speaker 63 = .ok (.getfield 162, 3) := by decide +kernel
theorem dX10_speaker_66 : decode cX10_speaker 66 = .ok (.iload_n 1, 1) := by decide +kernel
theorem dX10_speaker_67 : decode cX10_speaker 67 = .ok (.iaload, 1) := by decide +kernel
theorem dX10_speaker_68 : decode cX10_speaker 68 = .ok (.ireturn, 1) := by decide +kernel
theorem dX10_speaker_69 : decode cX10_speaker 69 = .ok (.aload_n 0, 1) := by decide +kernel
theorem dX10_speaker_70 : decode cX10_speaker 70 = .ok (.getfield 70, 3) := by decide +kernel
theorem dX10_speaker_73 : decode cX10_speaker 73 = .ok (.getfield 104, 3) := by decide +kernel
theorem dX10_speaker_76 : decode cX10_speaker 76 = .ok (.getfield 165, 3) := by decide +kernel
theorem dX10_speaker_79 : decode cX10_speaker 79 = .ok (.iload_n 1, 1) := by decide +kernel
theorem dX10_speaker_80 : decode cX10_speaker 80 = .ok (.iaload, 1) := by decide +kernel
theorem dX10_speaker_81 : decode cX10_speaker 81 = .ok (.ireturn, 1) := by decide +kernel
theorem dX10_speaker_82 : decode cX10_speaker 82 = .ok (.aload_n 0, 1) := by decide +kernel
theorem dX10_speaker_83 : decode cX10_speaker 83 = .ok (.getfield 19, 3) := by decide +kernel
theorem dX10_speaker_86 : decode cX10_speaker 86 = .ok (.getfield 168, 3) := by decide +kernel
theorem dX10_speaker_89 : decode cX10_speaker 89 = .ok (.iload_n 1, 1) := by decide +kernel
theorem dX10_speaker_90 : decode cX10_speaker 90 = .ok (.iaload, 1) := by decide +kernel
theorem dX10_speaker_91 : decode cX10_speaker 91 = .ok (.ireturn, 1) := by decide +kernel
theorem dX10_speaker_92 : decode cX10_speaker 92 = .ok (.aload_n 0, 1) := by decide +kernel
theorem dX10_speaker_93 : decode cX10_speaker 93 = .ok (.getfield 70, 3) := by decide +kernel
theorem dX10_speaker_96 : decode cX10_speaker 96 = .ok (.getfield 104, 3) := by decide +kernel
theorem dX10_speaker_99 : decode cX10_speaker 99 = .ok (.getfield 169, 3) := by decide +kernel
theorem dX10_speaker_102 : decode cX10_speaker 102 = .ok (.iload_n 1, 1) := by decide +kernel
theorem dX10_speaker_103 : decode cX10_speaker 103 = .ok (.iaload, 1) := by decide +kernel
theorem dX10_speaker_104 : decode cX10_speaker 104 = .ok (.ireturn, 1) := by decide +kernel
theorem dX10_speaker_105 : decode cX10_speaker 105 = .ok (.aload_n 0, 1) := by decide +kernel
theorem dX10_speaker_106 : decode cX10_speaker 106 = .ok (.getfield 70, 3) := by decide +kernel
theorem dX10_speaker_109 : decode cX10_speaker 109 = .ok (.getfield 104, 3) := by decide +kernel
theorem dX10_speaker_112 : decode cX10_speaker 112 = .ok (.getfield 172, 3) := by decide +kernel
theorem dX10_speaker_115 : decode cX10_speaker 115 = .ok (.iload_n 1, 1) := by decide +kernel
theorem dX10_speaker_116 : decode cX10_speaker 116 = .ok (.iaload, 1) := by decide +kernel
theorem dX10_speaker_117 : decode cX10_speaker 117 = .ok (.ireturn, 1) := by decide +kernel
theorem dX10_speaker_118 : decode cX10_speaker 118 = .ok (.ldc 78, 2) := by decide +kernel
theorem dX10_speaker_120 : decode cX10_speaker 120 = .ok (.ireturn, 1) := by decide +kernel
theorem dX10_length_0 : decode cX10_length 0 = .ok (.aload_n 0, 1) := by decide +kernel
theorem dX10_length_1 : decode cX10_length 1 = .ok (.getfield 70, 3) := by decide +kernel
theorem dX10_length_4 : decode cX10_length 4 = .ok (.getfield 95, 3) := by decide +kernel
theorem dX10_length_7 : decode cX10_length 7 = .ok (.iload_n 1, 1) := by decide +kernel
theorem dX10_length_8 : decode cX10_length 8 = .ok (.invokevirtual 175, 3) := by decide +kernel
theorem dX10_length_11 : decode cX10_length 11 = .ok (.ireturn, 1) := by decide +kernel
theorem dX10_said_0 : decode cX10_said 0 = .ok (.iload_n 1, 1) := by decide +kernel
theorem dX10_said_1 : decode cX10_said 1 = .ok (.ifCond .lt 14, 3) := by decide +kernel
theorem dX10_said_4 : decode cX10_said 4 = .ok (.iload_n 1, 1) := by decide +kernel
theorem dX10_said_5 : decode cX10_said 5 = .ok (.aload_n 0, 1) := by decide +kernel
theorem dX10_said_6 : decode cX10_said 6 = .ok (.getfield 19, 3) := by decide +kernel
theorem dX10_said_9 : decode cX10_said 9 = .ok (.getfield 151, 3) := by decide +kernel
theorem dX10_said_12 : decode cX10_said 12 = .ok (.if_icmp .lt 5, 3) := by decide +kernel
theorem dX10_said_15 : decode cX10_said 15 = .ok (.iconst (-1), 1) := by decide +kernel
theorem dX10_said_16 : decode cX10_said 16 = .ok (.ireturn, 1) := by decide +kernel
theorem dX10_said_17 : decode cX10_said 17 = .ok (.aload_n 0, 1) := by decide +kernel
theorem dX10_said_18 : decode cX10_said 18 = .ok (.getfield 19, 3) := by decide +kernel
theorem dX10_said_21 : decode cX10_said 21 = .ok (.getfield 179, 3) := by decide +kernel
theorem dX10_said_24 : decode cX10_said 24 = .ok (.iload_n 1, 1) := by decide +kernel
theorem dX10_said_25 : decode cX10_said 25 = .ok (.iaload, 1) := by decide +kernel
theorem dX10_said_26 : decode cX10_said 26 = .ok (.ireturn, 1) := by decide +kernel
theorem dX10_round_0 : decode cX10_round 0 = .ok (.aload_n 0, 1) := by decide +kernel
theorem dX10_round_1 : decode cX10_round 1 = .ok (.iload_n 1, 1) := by decide +kernel
theorem dX10_round_2 : decode cX10_round 2 = .ok (.iload_n 3, 1) := by decide +kernel
theorem dX10_round_3 : decode cX10_round 3 = .ok (.invokevirtual 182, 3) := by decide +kernel
theorem dX10_round_6 : decode cX10_round 6 = .ok (.ifCond .ne 6, 3) := by decide +kernel
theorem dX10_round_9 : decode cX10_round 9 = .ok (.ldc 155, 2) := by decide +kernel
theorem dX10_round_11 : decode cX10_round 11 = .ok (.ireturn, 1) := by decide +kernel
theorem dX10_round_12 : decode cX10_round 12 = .ok (.aload_n 0, 1) := by decide +kernel
theorem dX10_round_13 : decode cX10_round 13 = .ok (.iload_n 1, 1) := by decide +kernel
theorem dX10_round_14 : decode cX10_round 14 = .ok (.iload_n 2, 1) := by decide +kernel
theorem dX10_round_15 : decode cX10_round 15 = .ok (.invokevirtual 186, 3) := by decide +kernel
theorem dX10_round_18 : decode cX10_round 18 = .ok (.ifCond .eq 24, 3) := by decide +kernel
theorem dX10_round_21 : decode cX10_round 21 = .ok (.aload_n 0, 1) := by decide +kernel
theorem dX10_round_22 : decode cX10_round 22 = .ok (.iload_n 3, 1) := by decide +kernel
theorem dX10_round_23 : decode cX10_round 23 = .ok (.iload 4, 2) := by decide +kernel
theorem dX10_round_25 : decode cX10_round 25 = .ok (.invokevirtual 186, 3) := by decide +kernel
theorem dX10_round_28 : decode cX10_round 28 = .ok (.ifCond .eq 14, 3) := by decide +kernel
theorem dX10_round_31 : decode cX10_round 31 = .ok (.iload_n 2, 1) := by decide +kernel
theorem dX10_round_32 : decode cX10_round 32 = .ok (.iload 4, 2) := by decide +kernel
theorem dX10_round_34 : decode cX10_round 34 = .ok (.if_icmp .ne 11, 3) := by decide +kernel
theorem dX10_round_37 : decode cX10_round 37 = .ok (.iload_n 2, 1) := by decide +kernel
theorem dX10_round_38 : decode cX10_round 38 = .ok (.iconst (-1), 1) := by decide +kernel
theorem dX10_round_39 : decode cX10_round 39 = .ok (.if_icmp .eq 6, 3) := by decide +kernel
theorem dX10_round_42 : decode cX10_round 42 = .ok (.ldc 189, 2) := by decide +kernel
theorem dX10_round_44 : decode cX10_round 44 = .ok (.ireturn, 1) := by decide +kernel
theorem dX10_round_45 : decode cX10_round 45 = .ok (.aload_n 0, 1) := by decide +kernel
theorem dX10_round_46 : decode cX10_round 46 = .ok (.getfield 19, 3) := by decide +kernel
theorem dX10_round_49 : decode cX10_round 49 = .ok (.getfield 148, 3) := by decide +kernel
theorem dX10_round_52 : decode cX10_round 52 = .ok (.ldc 190, 2) := by decide +kernel
theorem dX10_round_54 : decode cX10_round 54 = .ok (.if_icmp .le 6, 3) := by decide +kernel
theorem dX10_round_57 : decode cX10_round 57 = .ok (.ldc 83, 2) := by decide +kernel
theorem dX10_round_59 : decode cX10_round 59 = .ok (.ireturn, 1) := by decide +kernel
theorem dX10_round_60 : decode cX10_round 60 = .ok (.aload_n 0, 1) := by decide +kernel
theorem dX10_round_61 : decode cX10_round 61 = .ok (.getfield 26, 3) := by decide +kernel
theorem dX10_round_64 : decode cX10_round 64 = .ok (.aload_n 0, 1) := by decide +kernel
theorem dX10_round_65 : decode cX10_round 65 = .ok (.getfield 19, 3) := by decide +kernel
theorem dX10_round_68 : decode cX10_round 68 = .ok (.invokevirtual 191, 3) := by decide +kernel
theorem dX10_round_71 : decode cX10_round 71 = .ok (.aload_n 0, 1) := by decide +kernel
theorem dX10_round_72 : decode cX10_round 72 = .ok (.getfield 19, 3) := by decide +kernel
theorem dX10_round_75 : decode cX10_round 75 = .ok (.aload_n 0, 1) := by decide +kernel
theorem dX10_round_76 : decode cX10_round 76 = .ok (.getfield 70, 3) := by decide +kernel
theorem dX10_round_79 : decode cX10_round 79 = .ok (.iload_n 1, 1) := by decide +kernel
theorem dX10_round_80 : decode cX10_round 80 = .ok (.iload_n 2, 1) := by decide +kernel
theorem dX10_round_81 : decode cX10_round 81 = .ok (.iload_n 3, 1) := by decide +kernel
theorem dX10_round_82 : decode cX10_round 82 = .ok (.iload 4, 2) := by decide +kernel
theorem dX10_round_84 : decode cX10_round 84 = .ok (.invokevirtual 195, 3) := by decide +kernel
theorem dX10_round_87 : decode cX10_round 87 = .ok (.ireturn, 1) := by decide +kernel
theorem dX10_drift_0 : decode cX10_drift 0 = .ok (.iload_n 1, 1) := by decide +kernel
theorem dX10_drift_1 : decode cX10_drift 1 = .ok (.iconst 1, 1) := by decide +kernel
theorem dX10_drift_2 : decode cX10_drift 2 = .ok (.if_icmp .lt 9, 3) := by decide +kernel
theorem dX10_drift_5 : decode cX10_drift 5 = .ok (.iload_n 1, 1) := by decide +kernel
theorem dX10_drift_6 : decode cX10_drift 6 = .ok (.bipush 99, 2) := by decide +kernel
theorem dX10_drift_8 : decode cX10_drift 8 = .ok (.if_icmp .le 6, 3) := by decide +kernel
theorem dX10_drift_11 : decode cX10_drift 11 = .ok (.ldc 78, 2) := by decide +kernel
theorem dX10_drift_13 : decode cX10_drift 13 = .ok (.ireturn, 1) := by decide +kernel
theorem dX10_drift_14 : decode cX10_drift 14 = .ok (.aload_n 0, 1) := by decide +kernel
theorem dX10_drift_15 : decode cX10_drift 15 = .ok (.getfield 70, 3) := by decide +kernel
theorem dX10_drift_18 : decode cX10_drift 18 = .ok (.getfield 104, 3) := by decide +kernel
theorem dX10_drift_21 : decode cX10_drift 21 = .ok (.iconst 0, 1) := by decide +kernel
theorem dX10_drift_22 : decode cX10_drift 22 = .ok (.invokevirtual 199, 3) := by decide +kernel
theorem dX10_drift_25 : decode cX10_drift 25 = .ok (.istore_n 2, 1) := by decide +kernel
theorem dX10_drift_26 : decode cX10_drift 26 = .ok (.aload_n 0, 1) := by decide +kernel
theorem dX10_drift_27 : decode cX10_drift 27 = .ok (.getfield 70, 3) := by decide +kernel
theorem dX10_drift_30 : decode cX10_drift 30 = .ok (.getfield 104, 3) := by decide +kernel
theorem dX10_drift_33 : decode cX10_drift 33 = .ok (.iconst 1, 1) := by decide +kernel
theorem dX10_drift_34 : decode cX10_drift 34 = .ok (.invokevirtual 199, 3) := by decide +kernel
theorem dX10_drift_37 : decode cX10_drift 37 = .ok (.istore_n 3, 1) := by decide +kernel
theorem dX10_drift_38 : decode cX10_drift 38 = .ok (.iload_n 2, 1) := by decide +kernel
theorem dX10_drift_39 : decode cX10_drift 39 = .ok (.ifCond .eq 7, 3) := by decide +kernel
theorem dX10_drift_42 : decode cX10_drift 42 = .ok (.iload_n 3, 1) := by decide +kernel
theorem dX10_drift_43 : decode cX10_drift 43 = .ok (.ifCond .ne 6, 3) := by decide +kernel
theorem dX10_drift_46 : decode cX10_drift 46 = .ok (.ldc 189, 2) := by decide +kernel
theorem dX10_drift_48 : decode cX10_drift 48 = .ok (.ireturn, 1) := by decide +kernel
theorem dX10_drift_49 : decode cX10_drift 49 = .ok (.aload_n 0, 1) := by decide +kernel
theorem dX10_drift_50 : decode cX10_drift 50 = .ok (.getfield 19, 3) := by decide +kernel
theorem dX10_drift_53 : decode cX10_drift 53 = .ok (.getfield 148, 3) := by decide +kernel
theorem dX10_drift_56 : decode cX10_drift 56 = .ok (.ldc 190, 2) := by decide +kernel
theorem dX10_drift_58 : decode cX10_drift 58 = .ok (.if_icmp .le 6, 3) := by decide +kernel
theorem dX10_drift_61 : decode cX10_drift 61 = .ok (.ldc 83, 2) := by decide +kernel
theorem dX10_drift_63 : decode cX10_drift 63 = .ok (.ireturn, 1) := by decide +kernel
theorem dX10_drift_64 : decode cX10_drift 64 = .ok (.aload_n 0, 1) := by decide +kernel
theorem dX10_drift_65 : decode cX10_drift 65 = .ok (.getfield 26, 3) := by decide +kernel
theorem dX10_drift_68 : decode cX10_drift 68 = .ok (.aload_n 0, 1) := by decide +kernel
theorem dX10_drift_69 : decode cX10_drift 69 = .ok (.getfield 19, 3) := by decide +kernel
theorem dX10_drift_72 : decode cX10_drift 72 = .ok (.invokevirtual 191, 3) := by decide +kernel
theorem dX10_drift_75 : decode cX10_drift 75 = .ok (.iconst 0, 1) := by decide +kernel
theorem dX10_drift_76 : decode cX10_drift 76 = .ok (.istore 4, 2) := by decide +kernel
theorem dX10_drift_78 : decode cX10_drift 78 = .ok (.iload 4, 2) := by decide +kernel
theorem dX10_drift_80 : decode cX10_drift 80 = .ok (.iload_n 1, 1) := by decide +kernel
theorem dX10_drift_81 : decode cX10_drift 81 = .ok (.if_icmp .ge 90, 3) := by decide +kernel
theorem dX10_drift_84 : decode cX10_drift 84 = .ok (.aload_n 0, 1) := by decide +kernel
theorem dX10_drift_85 : decode cX10_drift 85 = .ok (.getfield 70, 3) := by decide +kernel
theorem dX10_drift_88 : decode cX10_drift 88 = .ok (.getfield 104, 3) := by decide +kernel
theorem dX10_drift_91 : decode cX10_drift 91 = .ok (.iconst 0, 1) := by decide +kernel
theorem dX10_drift_92 : decode cX10_drift 92 = .ok (.aload_n 0, 1) := by decide +kernel
theorem dX10_drift_93 : decode cX10_drift 93 = .ok (.getfield 63, 3) := by decide +kernel
theorem dX10_drift_96 : decode cX10_drift 96 = .ok (.iload_n 2, 1) := by decide +kernel
theorem dX10_drift_97 : decode cX10_drift 97 = .ok (.invokevirtual 202, 3) := by decide +kernel
theorem dX10_drift_100 : decode cX10_drift 100 = .ok (.invokevirtual 205, 3) := by decide +kernel
theorem dX10_drift_103 : decode cX10_drift 103 = .ok (.istore 5, 2) := by decide +kernel
theorem dX10_drift_105 : decode cX10_drift 105 = .ok (.aload_n 0, 1) := by decide +kernel
theorem dX10_drift_106 : decode cX10_drift 106 = .ok (.iload 5, 2) := by decide +kernel
theorem dX10_drift_108 : decode cX10_drift 108 = .ok (.iconst (-1), 1) := by decide +kernel
theorem dX10_drift_109 : decode cX10_drift 109 = .ok (.invokevirtual 209, 3) := by decide +kernel
theorem dX10_drift_112 : decode cX10_drift 112 = .ok (.istore 6, 2) := by decide +kernel
theorem dX10_drift_114 : decode cX10_drift 114 = .ok (.aload_n 0, 1) := by decide +kernel
theorem dX10_drift_115 : decode cX10_drift 115 = .ok (.getfield 70, 3) := by decide +kernel
theorem dX10_drift_118 : decode cX10_drift 118 = .ok (.getfield 104, 3) := by decide +kernel
theorem dX10_drift_121 : decode cX10_drift 121 = .ok (.iconst 1, 1) := by decide +kernel
theorem dX10_drift_122 : decode cX10_drift 122 = .ok (.aload_n 0, 1) := by decide +kernel
theorem dX10_drift_123 : decode cX10_drift 123 = .ok (.getfield 63, 3) := by decide +kernel
theorem dX10_drift_126 : decode cX10_drift 126 = .ok (.iload_n 3, 1) := by decide +kernel
theorem dX10_drift_127 : decode cX10_drift 127 = .ok (.invokevirtual 202, 3) := by decide +kernel
theorem dX10_drift_130 : decode cX10_drift 130 = .ok (.invokevirtual 205, 3) := by decide +kernel
theorem dX10_drift_133 : decode cX10_drift 133 = .ok (.istore 7, 2) := by decide +kernel
theorem dX10_drift_135 : decode cX10_drift 135 = .ok (.aload_n 0, 1) := by decide +kernel
theorem dX10_drift_136 : decode cX10_drift 136 = .ok (.iload 7, 2) := by decide +kernel
theorem dX10_drift_138 : decode cX10_drift 138 = .ok (.iload 6, 2) := by decide +kernel
theorem dX10_drift_140 : decode cX10_drift 140 = .ok (.invokevirtual 209, 3) := by decide +kernel
theorem dX10_drift_143 : decode cX10_drift 143 = .ok (.istore 8, 2) := by decide +kernel
theorem dX10_drift_145 : decode cX10_drift 145 = .ok (.aload_n 0, 1) := by decide +kernel
theorem dX10_drift_146 : decode cX10_drift 146 = .ok (.getfield 19, 3) := by decide +kernel
theorem dX10_drift_149 : decode cX10_drift 149 = .ok (.aload_n 0, 1) := by decide +kernel
theorem dX10_drift_150 : decode cX10_drift 150 = .ok (.getfield 70, 3) := by decide +kernel
theorem dX10_drift_153 : decode cX10_drift 153 = .ok (.iload 5, 2) := by decide +kernel
theorem dX10_drift_155 : decode cX10_drift 155 = .ok (.iload 6, 2) := by decide +kernel
theorem dX10_drift_157 : decode cX10_drift 157 = .ok (.iload 7, 2) := by decide +kernel
theorem dX10_drift_159 : decode cX10_drift 159 = .ok (.iload 8, 2) := by decide +kernel
theorem dX10_drift_161 : decode cX10_drift 161 = .ok (.invokevirtual 195, 3) := by decide +kernel
theorem dX10_drift_164 : decode cX10_drift 164 = .ok (.pop, 1) := by decide +kernel
theorem dX10_drift_165 : decode cX10_drift 165 = .ok (.iinc 4 1, 3) := by decide +kernel
theorem dX10_drift_168 : decode cX10_drift 168 = .ok (.goto (-90), 3) := by decide +kernel
theorem dX10_drift_171 : decode cX10_drift 171 = .ok (.aload_n 0, 1) := by decide +kernel
theorem dX10_drift_172 : decode cX10_drift 172 = .ok (.getfield 19, 3) := by decide +kernel
theorem dX10_drift_175 : decode cX10_drift 175 = .ok (.getfield 145, 3) := by decide +kernel
theorem dX10_drift_178 : decode cX10_drift 178 = .ok (.sipush 1000, 3) := by decide +kernel
theorem dX10_drift_181 : decode cX10_drift 181 = .ok (.iadd, 1) := by decide +kernel
theorem dX10_drift_182 : decode cX10_drift 182 = .ok (.ireturn, 1) := by decide +kernel
theorem dX10_undo_0 : decode cX10_undo 0 = .ok (.aload_n 0, 1) := by decide +kernel
theorem dX10_undo_1 : decode cX10_undo 1 = .ok (.getfield 26, 3) := by decide +kernel
theorem dX10_undo_4 : decode cX10_undo 4 = .ok (.getfield 154, 3) := by decide +kernel
theorem dX10_undo_7 : decode cX10_undo 7 = .ok (.ifCond .ne 6, 3) := by decide +kernel
theorem dX10_undo_10 : decode cX10_undo 10 = .ok (.ldc 189, 2) := by decide +kernel
theorem dX10_undo_12 : decode cX10_undo 12 = .ok (.ireturn, 1) := by decide +kernel
theorem dX10_undo_13 : decode cX10_undo 13 = .ok (.aload_n 0, 1) := by decide +kernel
theorem dX10_undo_14 : decode cX10_undo 14 = .ok (.getfield 26, 3) := by decide +kernel
theorem dX10_undo_17 : decode cX10_undo 17 = .ok (.aload_n 0, 1) := by decide +kernel
theorem dX10_undo_18 : decode cX10_undo 18 = .ok (.getfield 19, 3) := by decide +kernel
theorem dX10_undo_21 : decode cX10_undo 21 = .ok (.invokevirtual 212, 3) := by decide +kernel
theorem dX10_undo_24 : decode cX10_undo 24 = .ok (.aload_n 0, 1) := by decide +kernel
theorem dX10_undo_25 : decode cX10_undo 25 = .ok (.getfield 26, 3) := by decide +kernel
theorem dX10_undo_28 : decode cX10_undo 28 = .ok (.getfield 154, 3) := by decide +kernel
theorem dX10_undo_31 : decode cX10_undo 31 = .ok (.ireturn, 1) := by decide +kernel
theorem dX10_longest_0 : decode cX10_longest 0 = .ok (.iload_n 1, 1) := by decide +kernel
theorem dX10_longest_1 : decode cX10_longest 1 = .ok (.ifCond .lt 18, 3) := by decide +kernel
theorem dX10_longest_4 : decode cX10_longest 4 = .ok (.iload_n 1, 1) := by decide +kernel
theorem dX10_longest_5 : decode cX10_longest 5 = .ok (.bipush 99, 2) := by decide +kernel
theorem dX10_longest_7 : decode cX10_longest 7 = .ok (.if_icmp .gt 12, 3) := by decide +kernel
theorem dX10_longest_10 : decode cX10_longest 10 = .ok (.iload_n 2, 1) := by decide +kernel
theorem dX10_longest_11 : decode cX10_longest 11 = .ok (.ifCond .lt 8, 3) := by decide +kernel
theorem dX10_longest_14 : decode cX10_longest 14 = .ok (.iload_n 2, 1) := by decide +kernel
theorem dX10_longest_15 : decode cX10_longest 15 = .ok (.iconst 1, 1) := by decide +kernel
theorem dX10_longest_16 : decode cX10_longest 16 = .ok (.if_icmp .le 6, 3) := by decide +kernel
theorem dX10_longest_19 : decode cX10_longest 19 = .ok (.ldc 78, 2) := by decide +kernel
theorem dX10_longest_21 : decode cX10_longest 21 = .ok (.ireturn, 1) := by decide +kernel
theorem dX10_longest_22 : decode cX10_longest 22 = .ok (.aload_n 0, 1) := by decide +kernel
theorem dX10_longest_23 : decode cX10_longest 23 = .ok (.getfield 70, 3) := by decide +kernel
theorem dX10_longest_26 : decode cX10_longest 26 = .ok (.getfield 95, 3) := by decide +kernel
theorem dX10_longest_29 : decode cX10_longest 29 = .ok (.iload_n 1, 1) := by decide +kernel
theorem dX10_longest_30 : decode cX10_longest 30 = .ok (.invokevirtual 215, 3) := by decide +kernel
theorem dX10_longest_33 : decode cX10_longest 33 = .ok (.istore_n 3, 1) := by decide +kernel
theorem dX10_longest_34 : decode cX10_longest 34 = .ok (.iload_n 3, 1) := by decide +kernel
theorem dX10_longest_35 : decode cX10_longest 35 = .ok (.ifCond .ne 5, 3) := by decide +kernel
theorem dX10_longest_38 : decode cX10_longest 38 = .ok (.iconst (-1), 1) := by decide +kernel
theorem dX10_longest_39 : decode cX10_longest 39 = .ok (.ireturn, 1) := by decide +kernel
theorem dX10_longest_40 : decode cX10_longest 40 = .ok (.iload_n 2, 1) := by decide +kernel
theorem dX10_longest_41 : decode cX10_longest 41 = .ok (.ifCond .ne 7, 3) := by decide +kernel
theorem dX10_longest_44 : decode cX10_longest 44 = .ok (.iload_n 3, 1) := by decide +kernel
theorem dX10_longest_45 : decode cX10_longest 45 = .ok (.goto 15, 3) := by decide +kernel
theorem dX10_longest_48 : decode cX10_longest 48 = .ok (.aload_n 0, 1) := by decide +kernel
theorem dX10_longest_49 : decode cX10_longest 49 = .ok (.getfield 70, 3) := by decide +kernel
theorem dX10_longest_52 : decode cX10_longest 52 = .ok (.getfield 95, 3) := by decide +kernel
theorem dX10_longest_55 : decode cX10_longest 55 = .ok (.getfield 218, 3) := by decide +kernel
theorem dX10_longest_58 : decode cX10_longest 58 = .ok (.iload_n 3, 1) := by decide +kernel
theorem dX10_longest_59 : decode cX10_longest 59 = .ok (.iaload, 1) := by decide +kernel
theorem dX10_longest_60 : decode cX10_longest 60 = .ok (.ireturn, 1) := by decide +kernel
theorem dX10_howMany_0 : decode cX10_howMany 0 = .ok (.iload_n 1, 1) := by decide +kernel
theorem dX10_howMany_1 : decode cX10_howMany 1 = .ok (.ifCond .lt 9, 3) := by decide +kernel
theorem dX10_howMany_4 : decode cX10_howMany 4 = .ok (.iload_n 1, 1) := by decide +kernel
theorem dX10_howMany_5 : decode cX10_howMany 5 = .ok (.bipush 99, 2) := by decide +kernel
theorem dX10_howMany_7 : decode cX10_howMany 7 = .ok (.if_icmp .le 6, 3) := by decide +kernel
theorem dX10_howMany_10 : decode cX10_howMany 10 = .ok (.ldc 78, 2) := by decide +kernel
theorem dX10_howMany_12 : decode cX10_howMany 12 = .ok (.ireturn, 1) := by decide +kernel
theorem dX10_howMany_13 : decode cX10_howMany 13 = .ok (.iload_n 1, 1) := by decide +kernel
theorem dX10_howMany_14 : decode cX10_howMany 14 = .ok (.bipush 41, 2) := by decide +kernel
theorem dX10_howMany_16 : decode cX10_howMany 16 = .ok (.if_icmp .le 7, 3) := by decide +kernel
theorem dX10_howMany_19 : decode cX10_howMany 19 = .ok (.iconst 0, 1) := by decide +kernel
theorem dX10_howMany_20 : decode cX10_howMany 20 = .ok (.goto 15, 3) := by decide +kernel
theorem dX10_howMany_23 : decode cX10_howMany 23 = .ok (.aload_n 0, 1) := by decide +kernel
theorem dX10_howMany_24 : decode cX10_howMany 24 = .ok (.getfield 70, 3) := by decide +kernel
theorem dX10_howMany_27 : decode cX10_howMany 27 = .ok (.getfield 95, 3) := by decide +kernel
theorem dX10_howMany_30 : decode cX10_howMany 30 = .ok (.getfield 221, 3) := by decide +kernel
theorem dX10_howMany_33 : decode cX10_howMany 33 = .ok (.iload_n 1, 1) := by decide +kernel
theorem dX10_howMany_34 : decode cX10_howMany 34 = .ok (.iaload, 1) := by decide +kernel
theorem dX10_howMany_35 : decode cX10_howMany 35 = .ok (.ireturn, 1) := by decide +kernel
theorem dX10_game_0 : decode cX10_game 0 = .ok (.iload_n 1, 1) := by decide +kernel
theorem dX10_game_1 : decode cX10_game 1 = .ok (.iconst 1, 1) := by decide +kernel
theorem dX10_game_2 : decode cX10_game 2 = .ok (.if_icmp .lt 18, 3) := by decide +kernel
theorem dX10_game_5 : decode cX10_game 5 = .ok (.iload_n 1, 1) := by decide +kernel
theorem dX10_game_6 : decode cX10_game 6 = .ok (.bipush 10, 2) := by decide +kernel
theorem dX10_game_8 : decode cX10_game 8 = .ok (.if_icmp .gt 12, 3) := by decide +kernel
theorem dX10_game_11 : decode cX10_game 11 = .ok (.iload_n 3, 1) := by decide +kernel
theorem dX10_game_12 : decode cX10_game 12 = .ok (.ifCond .lt 8, 3) := by decide +kernel
theorem dX10_game_15 : decode cX10_game 15 = .ok (.iload_n 3, 1) := by decide +kernel
theorem dX10_game_16 : decode cX10_game 16 = .ok (.iload_n 1, 1) := by decide +kernel
theorem dX10_game_17 : decode cX10_game 17 = .ok (.if_icmp .le 6, 3) := by decide +kernel
theorem dX10_game_20 : decode cX10_game 20 = .ok (.ldc 78, 2) := by decide +kernel
theorem dX10_game_22 : decode cX10_game 22 = .ok (.ireturn, 1) := by decide +kernel
theorem dX10_game_23 : decode cX10_game 23 = .ok (.iload_n 3, 1) := by decide +kernel
theorem dX10_game_24 : decode cX10_game 24 = .ok (.ifCond .le 18, 3) := by decide +kernel
theorem dX10_game_27 : decode cX10_game 27 = .ok (.iload_n 2, 1) := by decide +kernel
theorem dX10_game_28 : decode cX10_game 28 = .ok (.iload_n 3, 1) := by decide +kernel
theorem dX10_game_29 : decode cX10_game 29 = .ok (.iconst 1, 1) := by decide +kernel
theorem dX10_game_30 : decode cX10_game 30 = .ok (.isub, 1) := by decide +kernel
theorem dX10_game_31 : decode cX10_game 31 = .ok (.ishr, 1) := by decide +kernel
theorem dX10_game_32 : decode cX10_game 32 = .ok (.iconst 1, 1) := by decide +kernel
theorem dX10_game_33 : decode cX10_game 33 = .ok (.iand, 1) := by decide +kernel
theorem dX10_game_34 : decode cX10_game 34 = .ok (.iconst 1, 1) := by decide +kernel
theorem dX10_game_35 : decode cX10_game 35 = .ok (.if_icmp .ne 7, 3) := by decide +kernel
theorem dX10_game_38 : decode cX10_game 38 = .ok (.iconst 1, 1) := by decide +kernel
theorem dX10_game_39 : decode cX10_game 39 = .ok (.goto 4, 3) := by decide +kernel
theorem dX10_game_42 : decode cX10_game 42 = .ok (.iconst 0, 1) := by decide +kernel
theorem dX10_game_43 : decode cX10_game 43 = .ok (.istore 4, 2) := by decide +kernel
theorem dX10_game_45 : decode cX10_game 45 = .ok (.iload_n 2, 1) := by decide +kernel
theorem dX10_game_46 : decode cX10_game 46 = .ok (.ifCond .lt 15, 3) := by decide +kernel
theorem dX10_game_49 : decode cX10_game 49 = .ok (.iload_n 2, 1) := by decide +kernel
theorem dX10_game_50 : decode cX10_game 50 = .ok (.iconst 1, 1) := by decide +kernel
theorem dX10_game_51 : decode cX10_game 51 = .ok (.iload_n 1, 1) := by decide +kernel
