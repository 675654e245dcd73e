/-! method infos, pool links: by program -/
abbrev mX0_init : MI := (yX0_init, cX0_init, 1, none)
abbrev mX0_next : MI := (yX0_next, cX0_next, 2, some .int)
abbrev mX1_init : MI := (yX1_init, cX1_init, 1, none)
abbrev mX1_clear : MI := (yX1_clear, cX1_clear, 1, none)
abbrev mX1_wayOf : MI := (yX1_wayOf, cX1_wayOf, 5, some .int)
abbrev mX1_couldMove : MI := (yX1_couldMove, cX1_couldMove, 12, some .boolean)
abbrev mX2_init : MI := (yX2_init, cX2_init, 1, none)
abbrev mX2_fillTo : MI := (yX2_fillTo, cX2_fillTo, 3, none)
abbrev mX2_fill : MI := (yX2_fill, cX2_fill, 2, none)
abbrev mX2_bestBut : MI := (yX2_bestBut, cX2_bestBut, 7, some .int)
abbrev mX2_gainBy : MI := (yX2_gainBy, cX2_gainBy, 3, some .int)
abbrev mX2_worth : MI := (yX2_worth, cX2_worth, 4, some .int)
abbrev mX3_init : MI := (yX3_init, cX3_init, 1, none)
abbrev mX3_clear : MI := (yX3_clear, cX3_clear, 1, none)
abbrev mX3_addStem : MI := (yX3_addStem, cX3_addStem, 2, none)
abbrev mX3_addEnding : MI := (yX3_addEnding, cX3_addEnding, 2, none)
abbrev mX3_bar : MI := (yX3_bar, cX3_bar, 3, none)
abbrev mX3_isBarred : MI := (yX3_isBarred, cX3_isBarred, 3, some .boolean)
abbrev mX3_countWords : MI := (yX3_countWords, cX3_countWords, 2, none)
abbrev mX3_growFrom : MI := (yX3_growFrom, cX3_growFrom, 6, none)
abbrev mX3_enter : MI := (yX3_enter, cX3_enter, 3, none)
abbrev mX3_lengthOf : MI := (yX3_lengthOf, cX3_lengthOf, 7, some .int)
abbrev mX3_syllablesOf : MI := (yX3_syllablesOf, cX3_syllablesOf, 2, some .int)
abbrev mX3_longestWithin : MI := (yX3_longestWithin, cX3_longestWithin, 2, some .int)
abbrev mX3_lengthsWithin : MI := (yX3_lengthsWithin, cX3_lengthsWithin, 5, some .long)
abbrev mX3_pullOf : MI := (yX3_pullOf, cX3_pullOf, 3, some .int)
abbrev mX4_init : MI := (yX4_init, cX4_init, 1, none)
abbrev mX5_init : MI := (yX5_init, cX5_init, 2, none)
abbrev mX5_forget : MI := (yX5_forget, cX5_forget, 1, none)
abbrev mX5_push : MI := (yX5_push, cX5_push, 2, none)
abbrev mX5_popInto : MI := (yX5_popInto, cX5_popInto, 2, none)
abbrev mX6_init : MI := (yX6_init, cX6_init, 1, none)
abbrev mX6_plan : MI := (yX6_plan, cX6_plan, 7, none)
abbrev mX6_fillPulls : MI := (yX6_fillPulls, cX6_fillPulls, 9, none)
abbrev mX6_mostBehind : MI := (yX6_mostBehind, cX6_mostBehind, 4, some .int)
abbrev mX6_throughMember : MI := (yX6_throughMember, cX6_throughMember, 4, some .int)
abbrev mX6_farthest : MI := (yX6_farthest, cX6_farthest, 1, some .int)
abbrev mX6_nth : MI := (yX6_nth, cX6_nth, 5, some .int)
abbrev mX6_firstOfBest : MI := (yX6_firstOfBest, cX6_firstOfBest, 3, some .int)
abbrev mX7_init : MI := (yX7_init, cX7_init, 1, none)
abbrev mX7_add : MI := (yX7_add, cX7_add, 5, none)
abbrev mX7_isOf : MI := (yX7_isOf, cX7_isOf, 3, some .boolean)
abbrev mX7_countOf : MI := (yX7_countOf, cX7_countOf, 4, some .int)
abbrev mX7_nthOf : MI := (yX7_nthOf, cX7_nthOf, 5, some .int)
abbrev mX7_weightOfSide : MI := (yX7_weightOfSide, cX7_weightOfSide, 4, some .int)
abbrev mX7_differenceBy : MI := (yX7_differenceBy, cX7_differenceBy, 4, some .int)
abbrev mX7_fairestHalf : MI := (yX7_fairestHalf, cX7_fairestHalf, 5, some .int)
abbrev mX7_oddsOfNoCough : MI := (yX7_oddsOfNoCough, cX7_oddsOfNoCough, 5, some .int)
abbrev mX7_leastWorth : MI := (yX7_leastWorth, cX7_leastWorth, 6, some .int)
abbrev mX8_init : MI := (yX8_init, cX8_init, 1, none)
abbrev mX8_begin : MI := (yX8_begin, cX8_begin, 2, none)
abbrev mX8_copyFrom : MI := (yX8_copyFrom, cX8_copyFrom, 2, none)
abbrev mX8_wasSaid : MI := (yX8_wasSaid, cX8_wasSaid, 3, some .boolean)
abbrev mX8_play : MI := (yX8_play, cX8_play, 10, some .int)
abbrev mX8_restAllBut : MI := (yX8_restAllBut, cX8_restAllBut, 5, none)
abbrev mX8_remember : MI := (yX8_remember, cX8_remember, 2, none)
abbrev mX9_init : MI := (yX9_init, cX9_init, 1, none)
abbrev mX9_add : MI := (yX9_add, cX9_add, 2, none)
abbrev mX9_readInto : MI := (yX9_readInto, cX9_readInto, 3, none)
abbrev mX9_readClause : MI := (yX9_readClause, cX9_readClause, 3, none)
abbrev mX9_readGrammar : MI := (yX9_readGrammar, cX9_readGrammar, 4, none)
abbrev mX9_readStem : MI := (yX9_readStem, cX9_readStem, 3, none)
abbrev mX9_readEnding : MI := (yX9_readEnding, cX9_readEnding, 3, none)
abbrev mX9_readSpeaker : MI := (yX9_readSpeaker, cX9_readSpeaker, 6, none)
abbrev mX9_readBar : MI := (yX9_readBar, cX9_readBar, 4, none)
abbrev mX9_readWord : MI := (yX9_readWord, cX9_readWord, 2, none)
abbrev mX9_readNumber : MI := (yX9_readNumber, cX9_readNumber, 5, some .int)
abbrev mX9_readEnd : MI := (yX9_readEnd, cX9_readEnd, 1, none)
abbrev mX9_skipBlanks : MI := (yX9_skipBlanks, cX9_skipBlanks, 2, none)
abbrev mX9_fail : MI := (yX9_fail, cX9_fail, 3, none)
abbrev mX10_init : MI := (yX10_init, cX10_init, 2, none)
abbrev mX10_feed : MI := (yX10_feed, cX10_feed, 2, some .int)
abbrev mX10_feast : MI := (yX10_feast, cX10_feast, 3, some .int)
abbrev mX10_fault : MI := (yX10_fault, cX10_fault, 1, some .int)
abbrev mX10_told : MI := (yX10_told, cX10_told, 2, some .int)
abbrev mX10_stem : MI := (yX10_stem, cX10_stem, 2, some .int)
abbrev mX10_ending : MI := (yX10_ending, cX10_ending, 2, some .int)
abbrev mX10_speaker : MI := (yX10_speaker, cX10_speaker, 3, some .int)
abbrev mX10_length : MI := (yX10_length, cX10_length, 2, some .int)
abbrev mX10_said : MI := (yX10_said, cX10_said, 2, some .int)
abbrev mX10_round : MI := (yX10_round, cX10_round, 5, some .int)
abbrev mX10_drift : MI := (yX10_drift, cX10_drift, 9, some .int)
abbrev mX10_undo : MI := (yX10_undo, cX10_undo, 1, some .int)
abbrev mX10_longest : MI := (yX10_longest, cX10_longest, 4, some .int)
abbrev mX10_howMany : MI := (yX10_howMany, cX10_howMany, 2, some .int)
abbrev mX10_game : MI := (yX10_game, cX10_game, 5, some .int)
abbrev mX10_order : MI := (yX10_order, cX10_order, 4, some .int)
abbrev mX10_even : MI := (yX10_even, cX10_even, 3, some .int)
abbrev mX10_silence : MI := (yX10_silence, cX10_silence, 7, some .int)
abbrev mX10_pick : MI := (yX10_pick, cX10_pick, 3, some .int)
abbrev mX10_coughs : MI := (yX10_coughs, cX10_coughs, 2, some .int)
abbrev mX10_keepBack : MI := (yX10_keepBack, cX10_keepBack, 2, some .int)
abbrev mX10_mark : MI := (yX10_mark, cX10_mark, 2, some .int)
abbrev mX10_spoke : MI := (yX10_spoke, cX10_spoke, 6, some .int)
abbrev mX10_write : MI := (yX10_write, cX10_write, 3, some .int)
abbrev mX10_tear : MI := (yX10_tear, cX10_tear, 2, some .int)
abbrev mX10_judge : MI := (yX10_judge, cX10_judge, 2, some .int)
abbrev mX10_seed : MI := (yX10_seed, cX10_seed, 3, some .int)
abbrev mX10_keep : MI := (yX10_keep, cX10_keep, 2, some .int)
abbrev mX10_goBack : MI := (yX10_goBack, cX10_goBack, 2, some .int)
abbrev mX10_isSide : MI := (yX10_isSide, cX10_isSide, 1, some .boolean)
abbrev mX10_areOpponents : MI := (yX10_areOpponents, cX10_areOpponents, 3, some .boolean)
abbrev mX10_maySay : MI := (yX10_maySay, cX10_maySay, 4, some .boolean)
abbrev mX10_drawnWord : MI := (yX10_drawnWord, cX10_drawnWord, 5, some .int)
abbrev mX10_gainOf : MI := (yX10_gainOf, cX10_gainOf, 10, some .int)
abbrev mX11_init : MI := (yX11_init, cX11_init, 2, none)
abbrev mX11_in : MI := (yX11_in, cX11_in, 6, some .boolean)
abbrev mX11_has : MI := (yX11_has, cX11_has, 2, some .boolean)
abbrev mX11_isSpeaker : MI := (yX11_isSpeaker, cX11_isSpeaker, 2, some .boolean)
abbrev mX11_isOf : MI := (yX11_isOf, cX11_isOf, 3, some .boolean)
abbrev mX11_feed : MI := (yX11_feed, cX11_feed, 2, some .int)
abbrev mX11_here : MI := (yX11_here, cX11_here, 1, some .int)
abbrev mX11_fails : MI := (yX11_fails, cX11_fails, 3, some .int)
abbrev mX11_takeNumber : MI := (yX11_takeNumber, cX11_takeNumber, 4, some .int)
abbrev mX11_into : MI := (yX11_into, cX11_into, 6, some .int)
abbrev mX11_takeGrammar : MI := (yX11_takeGrammar, cX11_takeGrammar, 2, some .int)
abbrev mX11_takeStem : MI := (yX11_takeStem, cX11_takeStem, 1, some .int)
abbrev mX11_takeEnding : MI := (yX11_takeEnding, cX11_takeEnding, 1, some .int)
abbrev mX11_takeSpeaker : MI := (yX11_takeSpeaker, cX11_takeSpeaker, 3, some .int)
abbrev mX11_takeBar : MI := (yX11_takeBar, cX11_takeBar, 3, some .int)
abbrev mX11_takeClause : MI := (yX11_takeClause, cX11_takeClause, 5, some .int)
abbrev mX11_takeRead : MI := (yX11_takeRead, cX11_takeRead, 2, none)
abbrev mX11_feast : MI := (yX11_feast, cX11_feast, 2, some .int)
abbrev mX11_fault : MI := (yX11_fault, cX11_fault, 1, some .int)
abbrev mX11_told : MI := (yX11_told, cX11_told, 2, some .int)
abbrev mX11_stem : MI := (yX11_stem, cX11_stem, 2, some .int)
abbrev mX11_ending : MI := (yX11_ending, cX11_ending, 2, some .int)
abbrev mX11_speaker : MI := (yX11_speaker, cX11_speaker, 3, some .int)
abbrev mX11_lengthOf : MI := (yX11_lengthOf, cX11_lengthOf, 8, some .int)
abbrev mX11_length : MI := (yX11_length, cX11_length, 2, some .int)
abbrev mX11_findWords : MI := (yX11_findWords, cX11_findWords, 3, none)
abbrev mX11_longestOf : MI := (yX11_longestOf, cX11_longestOf, 3, some .int)
abbrev mX11_longest : MI := (yX11_longest, cX11_longest, 4, some .int)
abbrev mX11_howMany : MI := (yX11_howMany, cX11_howMany, 2, some .int)
abbrev mX11_said : MI := (yX11_said, cX11_said, 2, some .int)
abbrev mX11_wasSaid : MI := (yX11_wasSaid, cX11_wasSaid, 4, some .boolean)
abbrev mX11_say : MI := (yX11_say, cX11_say, 3, none)
abbrev mX11_remember : MI := (yX11_remember, cX11_remember, 2, none)
abbrev mX11_pullOf : MI := (yX11_pullOf, cX11_pullOf, 4, some .int)
abbrev mX11_goesBy : MI := (yX11_goesBy, cX11_goesBy, 5, some .int)
abbrev mX11_held : MI := (yX11_held, cX11_held, 1, some .int)
abbrev mX11_lengthSaid : MI := (yX11_lengthSaid, cX11_lengthSaid, 2, some .int)
abbrev mX11_roundNow : MI := (yX11_roundNow, cX11_roundNow, 10, some .int)
abbrev mX11_canSay : MI := (yX11_canSay, cX11_canSay, 3, some .boolean)
abbrev mX11_round : MI := (yX11_round, cX11_round, 5, some .int)
abbrev mX11_draw : MI := (yX11_draw, cX11_draw, 2, some .int)
abbrev mX11_manyOfSide : MI := (yX11_manyOfSide, cX11_manyOfSide, 4, some .int)
abbrev mX11_speakerOf : MI := (yX11_speakerOf, cX11_speakerOf, 5, some .int)
abbrev mX11_drawn : MI := (yX11_drawn, cX11_drawn, 6, some .int)
abbrev mX11_drift : MI := (yX11_drift, cX11_drift, 8, some .int)
abbrev mX11_undo : MI := (yX11_undo, cX11_undo, 2, some .int)
abbrev mX11_game : MI := (yX11_game, cX11_game, 10, some .int)
abbrev mX11_figure : MI := (yX11_figure, cX11_figure, 5, some .int)
abbrev mX11_pullAt : MI := (yX11_pullAt, cX11_pullAt, 7, some .int)
abbrev mX11_farBy : MI := (yX11_farBy, cX11_farBy, 9, some .int)
abbrev mX11_order : MI := (yX11_order, cX11_order, 10, some .int)
abbrev mX11_weightOf : MI := (yX11_weightOf, cX11_weightOf, 4, some .int)
abbrev mX11_even : MI := (yX11_even, cX11_even, 3, some .int)
abbrev mX11_longestNow : MI := (yX11_longestNow, cX11_longestNow, 3, some .int)
abbrev mX11_silence : MI := (yX11_silence, cX11_silence, 11, some .int)
abbrev mX11_bits : MI := (yX11_bits, cX11_bits, 3, some .int)
abbrev mX11_pick : MI := (yX11_pick, cX11_pick, 7, some .int)
abbrev mX11_coughs : MI := (yX11_coughs, cX11_coughs, 5, some .int)
abbrev mX11_keepBack : MI := (yX11_keepBack, cX11_keepBack, 7, some .int)
abbrev mX11_mark : MI := (yX11_mark, cX11_mark, 2, some .int)
abbrev mX11_isLength : MI := (yX11_isLength, cX11_isLength, 2, some .boolean)
abbrev mX11_could : MI := (yX11_could, cX11_could, 7, some .boolean)
abbrev mX11_spoke : MI := (yX11_spoke, cX11_spoke, 5, some .int)
abbrev mX11_write : MI := (yX11_write, cX11_write, 3, some .int)
abbrev mX11_tear : MI := (yX11_tear, cX11_tear, 2, some .int)
abbrev mX11_judge : MI := (yX11_judge, cX11_judge, 2, some .int)
abbrev mX11_seed : MI := (yX11_seed, cX11_seed, 3, some .int)
abbrev mX11_keep : MI := (yX11_keep, cX11_keep, 3, some .int)
abbrev mX11_goBack : MI := (yX11_goBack, cX11_goBack, 3, some .int)
abbrev mJ6_bitCount_0f7a4 : MI := (yJ6_bitCount_0f7a4, cJ6_bitCount_0f7a4, 1, some .int)
abbrev mJ9_abs_0f7a4 : MI := (yJ9_abs_0f7a4, cJ9_abs_0f7a4, 1, some .int)
abbrev mJ9_max_7cf53 : MI := (yJ9_max_7cf53, cJ9_max_7cf53, 2, some .int)
abbrev mJ9_min_7cf53 : MI := (yJ9_min_7cf53, cJ9_min_7cf53, 2, some .int)
abbrev mJ7_fill_53178 : MI := (yJ7_fill_53178, cJ7_fill_53178, 4, none)
abbrev mL : MI := (⟨RL, "law", "([I)Z"⟩, cL_law, 4, some .boolean)
theorem wi_X10 : Cond.initialized RX10 ∈ lw_tbl := List.mem_of_getElem? (i := 98) (by decide +kernel)
theorem wi_X0 : Cond.initialized RX0 ∈ lw_tbl := List.mem_of_getElem? (i := 104) (by decide +kernel)
theorem wi_X1 : Cond.initialized RX1 ∈ lw_tbl := List.mem_of_getElem? (i := 105) (by decide +kernel)
theorem wi_X2 : Cond.initialized RX2 ∈ lw_tbl := List.mem_of_getElem? (i := 102) (by decide +kernel)
theorem wi_X3 : Cond.initialized RX3 ∈ lw_tbl := List.mem_of_getElem? (i := 106) (by decide +kernel)
theorem wi_X4 : Cond.initialized RX4 ∈ lw_tbl := List.mem_of_getElem? (i := 108) (by decide +kernel)
theorem wi_X5 : Cond.initialized RX5 ∈ lw_tbl := List.mem_of_getElem? (i := 101) (by decide +kernel)
theorem wi_X6 : Cond.initialized RX6 ∈ lw_tbl := List.mem_of_getElem? (i := 103) (by decide +kernel)
theorem wi_X7 : Cond.initialized RX7 ∈ lw_tbl := List.mem_of_getElem? (i := 107) (by decide +kernel)
theorem wi_X8 : Cond.initialized RX8 ∈ lw_tbl := List.mem_of_getElem? (i := 100) (by decide +kernel)
theorem wi_X9 : Cond.initialized RX9 ∈ lw_tbl := List.mem_of_getElem? (i := 99) (by decide +kernel)
theorem wi_L : Cond.initialized RL ∈ lw_tbl := List.mem_of_getElem? (i := 97) (by decide +kernel)
theorem wi_X11 : Cond.initialized RX11 ∈ lw_tbl := List.mem_of_getElem? (i := 109) (by decide +kernel)
theorem wi_J6 : Cond.initialized RJ6 ∈ lw_tbl := List.mem_of_getElem? (i := 113) (by decide +kernel)
theorem wi_J9 : Cond.initialized RJ9 ∈ lw_tbl := List.mem_of_getElem? (i := 112) (by decide +kernel)
theorem wi_J10 : Cond.initialized RJ10 ∈ lw_tbl := List.mem_of_getElem? (i := 111) (by decide +kernel)
theorem wi_J7 : Cond.initialized RJ7 ∈ lw_tbl := List.mem_of_getElem? (i := 110) (by decide +kernel)
theorem wc_X0_init : Cond.code mX0_init.1 mX0_init.2.1 mX0_init.2.2.1 mX0_init.2.2.2 ∈ lw_tbl := List.mem_of_getElem? (i := 246) (by decide +kernel)
theorem wm_X0_init : Cond.instanceMethod yX0_init ∈ lw_tbl := List.mem_of_getElem? (i := 245) (by decide +kernel)
theorem wc_X0_next : Cond.code mX0_next.1 mX0_next.2.1 mX0_next.2.2.1 mX0_next.2.2.2 ∈ lw_tbl := List.mem_of_getElem? (i := 647) (by decide +kernel)
theorem wm_X0_next : Cond.instanceMethod yX0_next ∈ lw_tbl := List.mem_of_getElem? (i := 646) (by decide +kernel)
theorem ws_X0_next : Cond.selects yX0_next.cls yX0_next yX0_next ∈ lw_tbl := List.mem_of_getElem? (i := 38) (by decide +kernel)
theorem wc_X1_init : Cond.code mX1_init.1 mX1_init.2.1 mX1_init.2.2.1 mX1_init.2.2.2 ∈ lw_tbl := List.mem_of_getElem? (i := 257) (by decide +kernel)
theorem wm_X1_init : Cond.instanceMethod yX1_init ∈ lw_tbl := List.mem_of_getElem? (i := 256) (by decide +kernel)
theorem wc_X1_clear : Cond.code mX1_clear.1 mX1_clear.2.1 mX1_clear.2.2.1 mX1_clear.2.2.2 ∈ lw_tbl := List.mem_of_getElem? (i := 446) (by decide +kernel)
theorem wm_X1_clear : Cond.instanceMethod yX1_clear ∈ lw_tbl := List.mem_of_getElem? (i := 445) (by decide +kernel)
theorem ws_X1_clear : Cond.selects yX1_clear.cls yX1_clear yX1_clear ∈ lw_tbl := List.mem_of_getElem? (i := 2) (by decide +kernel)
theorem wc_X1_wayOf : Cond.code mX1_wayOf.1 mX1_wayOf.2.1 mX1_wayOf.2.2.1 mX1_wayOf.2.2.2 ∈ lw_tbl := List.mem_of_getElem? (i := 616) (by decide +kernel)
theorem wm_X1_wayOf : Cond.instanceMethod yX1_wayOf ∈ lw_tbl := List.mem_of_getElem? (i := 615) (by decide +kernel)
theorem ws_X1_wayOf : Cond.selects yX1_wayOf.cls yX1_wayOf yX1_wayOf ∈ lw_tbl := List.mem_of_getElem? (i := 33) (by decide +kernel)
theorem wc_X1_couldMove : Cond.code mX1_couldMove.1 mX1_couldMove.2.1 mX1_couldMove.2.2.1 mX1_couldMove.2.2.2 ∈ lw_tbl := List.mem_of_getElem? (i := 815) (by decide +kernel)
theorem wm_X1_couldMove : Cond.instanceMethod yX1_couldMove ∈ lw_tbl := List.mem_of_getElem? (i := 814) (by decide +kernel)
theorem ws_X1_couldMove : Cond.selects yX1_couldMove.cls yX1_couldMove yX1_couldMove ∈ lw_tbl := List.mem_of_getElem? (i := 61) (by decide +kernel)
theorem wc_X2_init : Cond.code mX2_init.1 mX2_init.2.1 mX2_init.2.2.1 mX2_init.2.2.2 ∈ lw_tbl := List.mem_of_getElem? (i := 206) (by decide +kernel)
theorem wm_X2_init : Cond.instanceMethod yX2_init ∈ lw_tbl := List.mem_of_getElem? (i := 205) (by decide +kernel)
theorem wc_X2_fillTo : Cond.code mX2_fillTo.1 mX2_fillTo.2.1 mX2_fillTo.2.2.1 mX2_fillTo.2.2.2 ∈ lw_tbl := List.mem_of_getElem? (i := 688) (by decide +kernel)
theorem wm_X2_fillTo : Cond.instanceMethod yX2_fillTo ∈ lw_tbl := List.mem_of_getElem? (i := 687) (by decide +kernel)
theorem ws_X2_fillTo : Cond.selects yX2_fillTo.cls yX2_fillTo yX2_fillTo ∈ lw_tbl := List.mem_of_getElem? (i := 43) (by decide +kernel)
theorem wc_X2_fill : Cond.code mX2_fill.1 mX2_fill.2.1 mX2_fill.2.2.1 mX2_fill.2.2.2 ∈ lw_tbl := List.mem_of_getElem? (i := 692) (by decide +kernel)
theorem wm_X2_fill : Cond.instanceMethod yX2_fill ∈ lw_tbl := List.mem_of_getElem? (i := 691) (by decide +kernel)
theorem ws_X2_fill : Cond.selects yX2_fill.cls yX2_fill yX2_fill ∈ lw_tbl := List.mem_of_getElem? (i := 44) (by decide +kernel)
theorem wc_X2_bestBut : Cond.code mX2_bestBut.1 mX2_bestBut.2.1 mX2_bestBut.2.2.1 mX2_bestBut.2.2.2 ∈ lw_tbl := List.mem_of_getElem? (i := 696) (by decide +kernel)
theorem wm_X2_bestBut : Cond.instanceMethod yX2_bestBut ∈ lw_tbl := List.mem_of_getElem? (i := 695) (by decide +kernel)
theorem ws_X2_bestBut : Cond.selects yX2_bestBut.cls yX2_bestBut yX2_bestBut ∈ lw_tbl := List.mem_of_getElem? (i := 45) (by decide +kernel)
theorem wc_X2_gainBy : Cond.code mX2_gainBy.1 mX2_gainBy.2.1 mX2_gainBy.2.2.1 mX2_gainBy.2.2.2 ∈ lw_tbl := List.mem_of_getElem? (i := 700) (by decide +kernel)
theorem wm_X2_gainBy : Cond.instanceMethod yX2_gainBy ∈ lw_tbl := List.mem_of_getElem? (i := 699) (by decide +kernel)
theorem ws_X2_gainBy : Cond.selects yX2_gainBy.cls yX2_gainBy yX2_gainBy ∈ lw_tbl := List.mem_of_getElem? (i := 46) (by decide +kernel)
theorem wc_X2_worth : Cond.code mX2_worth.1 mX2_worth.2.1 mX2_worth.2.2.1 mX2_worth.2.2.2 ∈ lw_tbl := List.mem_of_getElem? (i := 704) (by decide +kernel)
theorem wm_X2_worth : Cond.instanceMethod yX2_worth ∈ lw_tbl := List.mem_of_getElem? (i := 703) (by decide +kernel)
theorem ws_X2_worth : Cond.selects yX2_worth.cls yX2_worth yX2_worth ∈ lw_tbl := List.mem_of_getElem? (i := 47) (by decide +kernel)
theorem wc_X3_init : Cond.code mX3_init.1 mX3_init.2.1 mX3_init.2.2.1 mX3_init.2.2.2 ∈ lw_tbl := List.mem_of_getElem? (i := 263) (by decide +kernel)
theorem wm_X3_init : Cond.instanceMethod yX3_init ∈ lw_tbl := List.mem_of_getElem? (i := 262) (by decide +kernel)
theorem wc_X3_clear : Cond.code mX3_clear.1 mX3_clear.2.1 mX3_clear.2.2.1 mX3_clear.2.2.2 ∈ lw_tbl := List.mem_of_getElem? (i := 450) (by decide +kernel)
theorem wm_X3_clear : Cond.instanceMethod yX3_clear ∈ lw_tbl := List.mem_of_getElem? (i := 449) (by decide +kernel)
theorem ws_X3_clear : Cond.selects yX3_clear.cls yX3_clear yX3_clear ∈ lw_tbl := List.mem_of_getElem? (i := 3) (by decide +kernel)
theorem wc_X3_addStem : Cond.code mX3_addStem.1 mX3_addStem.2.1 mX3_addStem.2.2.1 mX3_addStem.2.2.2 ∈ lw_tbl := List.mem_of_getElem? (i := 489) (by decide +kernel)
theorem wm_X3_addStem : Cond.instanceMethod yX3_addStem ∈ lw_tbl := List.mem_of_getElem? (i := 488) (by decide +kernel)
theorem ws_X3_addStem : Cond.selects yX3_addStem.cls yX3_addStem yX3_addStem ∈ lw_tbl := List.mem_of_getElem? (i := 12) (by decide +kernel)
theorem wc_X3_addEnding : Cond.code mX3_addEnding.1 mX3_addEnding.2.1 mX3_addEnding.2.2.1 mX3_addEnding.2.2.2 ∈ lw_tbl := List.mem_of_getElem? (i := 497) (by decide +kernel)
theorem wm_X3_addEnding : Cond.instanceMethod yX3_addEnding ∈ lw_tbl := List.mem_of_getElem? (i := 496) (by decide +kernel)
theorem ws_X3_addEnding : Cond.selects yX3_addEnding.cls yX3_addEnding yX3_addEnding ∈ lw_tbl := List.mem_of_getElem? (i := 14) (by decide +kernel)
theorem wc_X3_bar : Cond.code mX3_bar.1 mX3_bar.2.1 mX3_bar.2.2.1 mX3_bar.2.2.2 ∈ lw_tbl := List.mem_of_getElem? (i := 517) (by decide +kernel)
theorem wm_X3_bar : Cond.instanceMethod yX3_bar ∈ lw_tbl := List.mem_of_getElem? (i := 516) (by decide +kernel)
theorem ws_X3_bar : Cond.selects yX3_bar.cls yX3_bar yX3_bar ∈ lw_tbl := List.mem_of_getElem? (i := 19) (by decide +kernel)
theorem wc_X3_isBarred : Cond.code mX3_isBarred.1 mX3_isBarred.2.1 mX3_isBarred.2.2.1 mX3_isBarred.2.2.2 ∈ lw_tbl := List.mem_of_getElem? (i := 513) (by decide +kernel)
theorem wm_X3_isBarred : Cond.instanceMethod yX3_isBarred ∈ lw_tbl := List.mem_of_getElem? (i := 512) (by decide +kernel)
theorem ws_X3_isBarred : Cond.selects yX3_isBarred.cls yX3_isBarred yX3_isBarred ∈ lw_tbl := List.mem_of_getElem? (i := 18) (by decide +kernel)
theorem wc_X3_countWords : Cond.code mX3_countWords.1 mX3_countWords.2.1 mX3_countWords.2.2.1 mX3_countWords.2.2.2 ∈ lw_tbl := List.mem_of_getElem? (i := 521) (by decide +kernel)
theorem wm_X3_countWords : Cond.instanceMethod yX3_countWords ∈ lw_tbl := List.mem_of_getElem? (i := 520) (by decide +kernel)
theorem ws_X3_countWords : Cond.selects yX3_countWords.cls yX3_countWords yX3_countWords ∈ lw_tbl := List.mem_of_getElem? (i := 20) (by decide +kernel)
theorem wc_X3_growFrom : Cond.code mX3_growFrom.1 mX3_growFrom.2.1 mX3_growFrom.2.2.1 mX3_growFrom.2.2.2 ∈ lw_tbl := List.mem_of_getElem? (i := 524) (by decide +kernel)
theorem wt_X3_growFrom : Cond.static yX3_growFrom ∈ lw_tbl := List.mem_of_getElem? (i := 523) (by decide +kernel)
theorem wc_X3_enter : Cond.code mX3_enter.1 mX3_enter.2.1 mX3_enter.2.2.1 mX3_enter.2.2.2 ∈ lw_tbl := List.mem_of_getElem? (i := 528) (by decide +kernel)
theorem wm_X3_enter : Cond.instanceMethod yX3_enter ∈ lw_tbl := List.mem_of_getElem? (i := 527) (by decide +kernel)
theorem ws_X3_enter : Cond.selects yX3_enter.cls yX3_enter yX3_enter ∈ lw_tbl := List.mem_of_getElem? (i := 21) (by decide +kernel)
theorem wc_X3_lengthOf : Cond.code mX3_lengthOf.1 mX3_lengthOf.2.1 mX3_lengthOf.2.2.1 mX3_lengthOf.2.2.2 ∈ lw_tbl := List.mem_of_getElem? (i := 569) (by decide +kernel)
theorem wm_X3_lengthOf : Cond.instanceMethod yX3_lengthOf ∈ lw_tbl := List.mem_of_getElem? (i := 568) (by decide +kernel)
theorem ws_X3_lengthOf : Cond.selects yX3_lengthOf.cls yX3_lengthOf yX3_lengthOf ∈ lw_tbl := List.mem_of_getElem? (i := 24) (by decide +kernel)
theorem wc_X3_syllablesOf : Cond.code mX3_syllablesOf.1 mX3_syllablesOf.2.1 mX3_syllablesOf.2.2.1 mX3_syllablesOf.2.2.2 ∈ lw_tbl := List.mem_of_getElem? (i := 611) (by decide +kernel)
theorem wm_X3_syllablesOf : Cond.instanceMethod yX3_syllablesOf ∈ lw_tbl := List.mem_of_getElem? (i := 610) (by decide +kernel)
theorem ws_X3_syllablesOf : Cond.selects yX3_syllablesOf.cls yX3_syllablesOf yX3_syllablesOf ∈ lw_tbl := List.mem_of_getElem? (i := 32) (by decide +kernel)
theorem wc_X3_longestWithin : Cond.code mX3_longestWithin.1 mX3_longestWithin.2.1 mX3_longestWithin.2.2.1 mX3_longestWithin.2.2.2 ∈ lw_tbl := List.mem_of_getElem? (i := 663) (by decide +kernel)
theorem wm_X3_longestWithin : Cond.instanceMethod yX3_longestWithin ∈ lw_tbl := List.mem_of_getElem? (i := 662) (by decide +kernel)
theorem ws_X3_longestWithin : Cond.selects yX3_longestWithin.cls yX3_longestWithin yX3_longestWithin ∈ lw_tbl := List.mem_of_getElem? (i := 41) (by decide +kernel)
theorem wc_X3_lengthsWithin : Cond.code mX3_lengthsWithin.1 mX3_lengthsWithin.2.1 mX3_lengthsWithin.2.2.1 mX3_lengthsWithin.2.2.2 ∈ lw_tbl := List.mem_of_getElem? (i := 819) (by decide +kernel)
theorem wm_X3_lengthsWithin : Cond.instanceMethod yX3_lengthsWithin ∈ lw_tbl := List.mem_of_getElem? (i := 818) (by decide +kernel)
theorem ws_X3_lengthsWithin : Cond.selects yX3_lengthsWithin.cls yX3_lengthsWithin yX3_lengthsWithin ∈ lw_tbl := List.mem_of_getElem? (i := 62) (by decide +kernel)
theorem wc_X3_pullOf : Cond.code mX3_pullOf.1 mX3_pullOf.2.1 mX3_pullOf.2.2.1 mX3_pullOf.2.2.2 ∈ lw_tbl := List.mem_of_getElem? (i := 620) (by decide +kernel)
theorem wm_X3_pullOf : Cond.instanceMethod yX3_pullOf ∈ lw_tbl := List.mem_of_getElem? (i := 619) (by decide +kernel)
theorem ws_X3_pullOf : Cond.selects yX3_pullOf.cls yX3_pullOf yX3_pullOf ∈ lw_tbl := List.mem_of_getElem? (i := 34) (by decide +kernel)
theorem wc_X4_init : Cond.code mX4_init.1 mX4_init.2.1 mX4_init.2.2.1 mX4_init.2.2.2 ∈ lw_tbl := List.mem_of_getElem? (i := 367) (by decide +kernel)
theorem wm_X4_init : Cond.instanceMethod yX4_init ∈ lw_tbl := List.mem_of_getElem? (i := 366) (by decide +kernel)
theorem wc_X5_init : Cond.code mX5_init.1 mX5_init.2.1 mX5_init.2.2.1 mX5_init.2.2.2 ∈ lw_tbl := List.mem_of_getElem? (i := 184) (by decide +kernel)
theorem wm_X5_init : Cond.instanceMethod yX5_init ∈ lw_tbl := List.mem_of_getElem? (i := 183) (by decide +kernel)
theorem wc_X5_forget : Cond.code mX5_forget.1 mX5_forget.2.1 mX5_forget.2.2.1 mX5_forget.2.2.2 ∈ lw_tbl := List.mem_of_getElem? (i := 540) (by decide +kernel)
theorem wm_X5_forget : Cond.instanceMethod yX5_forget ∈ lw_tbl := List.mem_of_getElem? (i := 539) (by decide +kernel)
theorem ws_X5_forget : Cond.selects yX5_forget.cls yX5_forget yX5_forget ∈ lw_tbl := List.mem_of_getElem? (i := 23) (by decide +kernel)
theorem wc_X5_push : Cond.code mX5_push.1 mX5_push.2.1 mX5_push.2.2.1 mX5_push.2.2.2 ∈ lw_tbl := List.mem_of_getElem? (i := 599) (by decide +kernel)
theorem wm_X5_push : Cond.instanceMethod yX5_push ∈ lw_tbl := List.mem_of_getElem? (i := 598) (by decide +kernel)
theorem ws_X5_push : Cond.selects yX5_push.cls yX5_push yX5_push ∈ lw_tbl := List.mem_of_getElem? (i := 29) (by decide +kernel)
theorem wc_X5_popInto : Cond.code mX5_popInto.1 mX5_popInto.2.1 mX5_popInto.2.2.1 mX5_popInto.2.2.2 ∈ lw_tbl := List.mem_of_getElem? (i := 672) (by decide +kernel)
theorem wm_X5_popInto : Cond.instanceMethod yX5_popInto ∈ lw_tbl := List.mem_of_getElem? (i := 671) (by decide +kernel)
theorem ws_X5_popInto : Cond.selects yX5_popInto.cls yX5_popInto yX5_popInto ∈ lw_tbl := List.mem_of_getElem? (i := 42) (by decide +kernel)
theorem wc_X6_init : Cond.code mX6_init.1 mX6_init.2.1 mX6_init.2.2.1 mX6_init.2.2.2 ∈ lw_tbl := List.mem_of_getElem? (i := 225) (by decide +kernel)
theorem wm_X6_init : Cond.instanceMethod yX6_init ∈ lw_tbl := List.mem_of_getElem? (i := 224) (by decide +kernel)
theorem wc_X6_plan : Cond.code mX6_plan.1 mX6_plan.2.1 mX6_plan.2.2.1 mX6_plan.2.2.2 ∈ lw_tbl := List.mem_of_getElem? (i := 716) (by decide +kernel)
theorem wm_X6_plan : Cond.instanceMethod yX6_plan ∈ lw_tbl := List.mem_of_getElem? (i := 715) (by decide +kernel)
theorem ws_X6_plan : Cond.selects yX6_plan.cls yX6_plan yX6_plan ∈ lw_tbl := List.mem_of_getElem? (i := 48) (by decide +kernel)
theorem wc_X6_fillPulls : Cond.code mX6_fillPulls.1 mX6_fillPulls.2.1 mX6_fillPulls.2.2.1 mX6_fillPulls.2.2.2 ∈ lw_tbl := List.mem_of_getElem? (i := 720) (by decide +kernel)
theorem wm_X6_fillPulls : Cond.instanceMethod yX6_fillPulls ∈ lw_tbl := List.mem_of_getElem? (i := 719) (by decide +kernel)
theorem ws_X6_fillPulls : Cond.selects yX6_fillPulls.cls yX6_fillPulls yX6_fillPulls ∈ lw_tbl := List.mem_of_getElem? (i := 49) (by decide +kernel)
theorem wc_X6_mostBehind : Cond.code mX6_mostBehind.1 mX6_mostBehind.2.1 mX6_mostBehind.2.2.1 mX6_mostBehind.2.2.2 ∈ lw_tbl := List.mem_of_getElem? (i := 728) (by decide +kernel)
theorem wm_X6_mostBehind : Cond.instanceMethod yX6_mostBehind ∈ lw_tbl := List.mem_of_getElem? (i := 727) (by decide +kernel)
theorem ws_X6_mostBehind : Cond.selects yX6_mostBehind.cls yX6_mostBehind yX6_mostBehind ∈ lw_tbl := List.mem_of_getElem? (i := 50) (by decide +kernel)
theorem wc_X6_throughMember : Cond.code mX6_throughMember.1 mX6_throughMember.2.1 mX6_throughMember.2.2.1 mX6_throughMember.2.2.2 ∈ lw_tbl := List.mem_of_getElem? (i := 732) (by decide +kernel)
theorem wm_X6_throughMember : Cond.instanceMethod yX6_throughMember ∈ lw_tbl := List.mem_of_getElem? (i := 731) (by decide +kernel)
theorem ws_X6_throughMember : Cond.selects yX6_throughMember.cls yX6_throughMember yX6_throughMember ∈ lw_tbl := List.mem_of_getElem? (i := 51) (by decide +kernel)
theorem wc_X6_farthest : Cond.code mX6_farthest.1 mX6_farthest.2.1 mX6_farthest.2.2.1 mX6_farthest.2.2.2 ∈ lw_tbl := List.mem_of_getElem? (i := 742) (by decide +kernel)
theorem wm_X6_farthest : Cond.instanceMethod yX6_farthest ∈ lw_tbl := List.mem_of_getElem? (i := 741) (by decide +kernel)
theorem ws_X6_farthest : Cond.selects yX6_farthest.cls yX6_farthest yX6_farthest ∈ lw_tbl := List.mem_of_getElem? (i := 52) (by decide +kernel)
theorem wc_X6_nth : Cond.code mX6_nth.1 mX6_nth.2.1 mX6_nth.2.2.1 mX6_nth.2.2.2 ∈ lw_tbl := List.mem_of_getElem? (i := 746) (by decide +kernel)
theorem wm_X6_nth : Cond.instanceMethod yX6_nth ∈ lw_tbl := List.mem_of_getElem? (i := 745) (by decide +kernel)
theorem ws_X6_nth : Cond.selects yX6_nth.cls yX6_nth yX6_nth ∈ lw_tbl := List.mem_of_getElem? (i := 53) (by decide +kernel)
theorem wc_X6_firstOfBest : Cond.code mX6_firstOfBest.1 mX6_firstOfBest.2.1 mX6_firstOfBest.2.2.1 mX6_firstOfBest.2.2.2 ∈ lw_tbl := List.mem_of_getElem? (i := 750) (by decide +kernel)
theorem wm_X6_firstOfBest : Cond.instanceMethod yX6_firstOfBest ∈ lw_tbl := List.mem_of_getElem? (i := 749) (by decide +kernel)
theorem ws_X6_firstOfBest : Cond.selects yX6_firstOfBest.cls yX6_firstOfBest yX6_firstOfBest ∈ lw_tbl := List.mem_of_getElem? (i := 54) (by decide +kernel)
theorem wc_X7_init : Cond.code mX7_init.1 mX7_init.2.1 mX7_init.2.2.1 mX7_init.2.2.2 ∈ lw_tbl := List.mem_of_getElem? (i := 316) (by decide +kernel)
theorem wm_X7_init : Cond.instanceMethod yX7_init ∈ lw_tbl := List.mem_of_getElem? (i := 315) (by decide +kernel)
theorem wc_X7_add : Cond.code mX7_add.1 mX7_add.2.1 mX7_add.2.2.1 mX7_add.2.2.2 ∈ lw_tbl := List.mem_of_getElem? (i := 505) (by decide +kernel)
theorem wm_X7_add : Cond.instanceMethod yX7_add ∈ lw_tbl := List.mem_of_getElem? (i := 504) (by decide +kernel)
theorem ws_X7_add : Cond.selects yX7_add.cls yX7_add yX7_add ∈ lw_tbl := List.mem_of_getElem? (i := 16) (by decide +kernel)
theorem wc_X7_isOf : Cond.code mX7_isOf.1 mX7_isOf.2.1 mX7_isOf.2.2.1 mX7_isOf.2.2.2 ∈ lw_tbl := List.mem_of_getElem? (i := 585) (by decide +kernel)
theorem wm_X7_isOf : Cond.instanceMethod yX7_isOf ∈ lw_tbl := List.mem_of_getElem? (i := 584) (by decide +kernel)
theorem ws_X7_isOf : Cond.selects yX7_isOf.cls yX7_isOf yX7_isOf ∈ lw_tbl := List.mem_of_getElem? (i := 26) (by decide +kernel)
theorem wc_X7_countOf : Cond.code mX7_countOf.1 mX7_countOf.2.1 mX7_countOf.2.2.1 mX7_countOf.2.2.2 ∈ lw_tbl := List.mem_of_getElem? (i := 643) (by decide +kernel)
theorem wm_X7_countOf : Cond.instanceMethod yX7_countOf ∈ lw_tbl := List.mem_of_getElem? (i := 642) (by decide +kernel)
theorem ws_X7_countOf : Cond.selects yX7_countOf.cls yX7_countOf yX7_countOf ∈ lw_tbl := List.mem_of_getElem? (i := 37) (by decide +kernel)
theorem wc_X7_nthOf : Cond.code mX7_nthOf.1 mX7_nthOf.2.1 mX7_nthOf.2.2.1 mX7_nthOf.2.2.2 ∈ lw_tbl := List.mem_of_getElem? (i := 655) (by decide +kernel)
theorem wm_X7_nthOf : Cond.instanceMethod yX7_nthOf ∈ lw_tbl := List.mem_of_getElem? (i := 654) (by decide +kernel)
theorem ws_X7_nthOf : Cond.selects yX7_nthOf.cls yX7_nthOf yX7_nthOf ∈ lw_tbl := List.mem_of_getElem? (i := 39) (by decide +kernel)
theorem wc_X7_weightOfSide : Cond.code mX7_weightOfSide.1 mX7_weightOfSide.2.1 mX7_weightOfSide.2.2.1 mX7_weightOfSide.2.2.2 ∈ lw_tbl := List.mem_of_getElem? (i := 758) (by decide +kernel)
theorem wm_X7_weightOfSide : Cond.instanceMethod yX7_weightOfSide ∈ lw_tbl := List.mem_of_getElem? (i := 757) (by decide +kernel)
theorem ws_X7_weightOfSide : Cond.selects yX7_weightOfSide.cls yX7_weightOfSide yX7_weightOfSide ∈ lw_tbl := List.mem_of_getElem? (i := 55) (by decide +kernel)
theorem wc_X7_differenceBy : Cond.code mX7_differenceBy.1 mX7_differenceBy.2.1 mX7_differenceBy.2.2.1 mX7_differenceBy.2.2.2 ∈ lw_tbl := List.mem_of_getElem? (i := 783) (by decide +kernel)
theorem wm_X7_differenceBy : Cond.instanceMethod yX7_differenceBy ∈ lw_tbl := List.mem_of_getElem? (i := 782) (by decide +kernel)
theorem ws_X7_differenceBy : Cond.selects yX7_differenceBy.cls yX7_differenceBy yX7_differenceBy ∈ lw_tbl := List.mem_of_getElem? (i := 58) (by decide +kernel)
theorem wc_X7_fairestHalf : Cond.code mX7_fairestHalf.1 mX7_fairestHalf.2.1 mX7_fairestHalf.2.2.1 mX7_fairestHalf.2.2.2 ∈ lw_tbl := List.mem_of_getElem? (i := 778) (by decide +kernel)
theorem wm_X7_fairestHalf : Cond.instanceMethod yX7_fairestHalf ∈ lw_tbl := List.mem_of_getElem? (i := 777) (by decide +kernel)
theorem ws_X7_fairestHalf : Cond.selects yX7_fairestHalf.cls yX7_fairestHalf yX7_fairestHalf ∈ lw_tbl := List.mem_of_getElem? (i := 57) (by decide +kernel)
theorem wc_X7_oddsOfNoCough : Cond.code mX7_oddsOfNoCough.1 mX7_oddsOfNoCough.2.1 mX7_oddsOfNoCough.2.2.1 mX7_oddsOfNoCough.2.2.2 ∈ lw_tbl := List.mem_of_getElem? (i := 793) (by decide +kernel)
theorem wm_X7_oddsOfNoCough : Cond.instanceMethod yX7_oddsOfNoCough ∈ lw_tbl := List.mem_of_getElem? (i := 792) (by decide +kernel)
theorem ws_X7_oddsOfNoCough : Cond.selects yX7_oddsOfNoCough.cls yX7_oddsOfNoCough yX7_oddsOfNoCough ∈ lw_tbl := List.mem_of_getElem? (i := 59) (by decide +kernel)
theorem wc_X7_leastWorth : Cond.code mX7_leastWorth.1 mX7_leastWorth.2.1 mX7_leastWorth.2.2.1 mX7_leastWorth.2.2.2 ∈ lw_tbl := List.mem_of_getElem? (i := 803) (by decide +kernel)
theorem wm_X7_leastWorth : Cond.instanceMethod yX7_leastWorth ∈ lw_tbl := List.mem_of_getElem? (i := 802) (by decide +kernel)
theorem ws_X7_leastWorth : Cond.selects yX7_leastWorth.cls yX7_leastWorth yX7_leastWorth ∈ lw_tbl := List.mem_of_getElem? (i := 60) (by decide +kernel)
theorem wc_X8_init : Cond.code mX8_init.1 mX8_init.2.1 mX8_init.2.2.1 mX8_init.2.2.2 ∈ lw_tbl := List.mem_of_getElem? (i := 155) (by decide +kernel)
theorem wm_X8_init : Cond.instanceMethod yX8_init ∈ lw_tbl := List.mem_of_getElem? (i := 154) (by decide +kernel)
theorem wc_X8_begin : Cond.code mX8_begin.1 mX8_begin.2.1 mX8_begin.2.2.1 mX8_begin.2.2.2 ∈ lw_tbl := List.mem_of_getElem? (i := 533) (by decide +kernel)
theorem wm_X8_begin : Cond.instanceMethod yX8_begin ∈ lw_tbl := List.mem_of_getElem? (i := 532) (by decide +kernel)
theorem ws_X8_begin : Cond.selects yX8_begin.cls yX8_begin yX8_begin ∈ lw_tbl := List.mem_of_getElem? (i := 22) (by decide +kernel)
theorem wc_X8_copyFrom : Cond.code mX8_copyFrom.1 mX8_copyFrom.2.1 mX8_copyFrom.2.2.1 mX8_copyFrom.2.2.2 ∈ lw_tbl := List.mem_of_getElem? (i := 603) (by decide +kernel)
theorem wm_X8_copyFrom : Cond.instanceMethod yX8_copyFrom ∈ lw_tbl := List.mem_of_getElem? (i := 602) (by decide +kernel)
theorem ws_X8_copyFrom : Cond.selects yX8_copyFrom.cls yX8_copyFrom yX8_copyFrom ∈ lw_tbl := List.mem_of_getElem? (i := 30) (by decide +kernel)
theorem wc_X8_wasSaid : Cond.code mX8_wasSaid.1 mX8_wasSaid.2.1 mX8_wasSaid.2.2.1 mX8_wasSaid.2.2.2 ∈ lw_tbl := List.mem_of_getElem? (i := 593) (by decide +kernel)
theorem wm_X8_wasSaid : Cond.instanceMethod yX8_wasSaid ∈ lw_tbl := List.mem_of_getElem? (i := 592) (by decide +kernel)
theorem ws_X8_wasSaid : Cond.selects yX8_wasSaid.cls yX8_wasSaid yX8_wasSaid ∈ lw_tbl := List.mem_of_getElem? (i := 28) (by decide +kernel)
theorem wc_X8_play : Cond.code mX8_play.1 mX8_play.2.1 mX8_play.2.2.1 mX8_play.2.2.2 ∈ lw_tbl := List.mem_of_getElem? (i := 607) (by decide +kernel)
theorem wm_X8_play : Cond.instanceMethod yX8_play ∈ lw_tbl := List.mem_of_getElem? (i := 606) (by decide +kernel)
theorem ws_X8_play : Cond.selects yX8_play.cls yX8_play yX8_play ∈ lw_tbl := List.mem_of_getElem? (i := 31) (by decide +kernel)
theorem wc_X8_restAllBut : Cond.code mX8_restAllBut.1 mX8_restAllBut.2.1 mX8_restAllBut.2.2.1 mX8_restAllBut.2.2.2 ∈ lw_tbl := List.mem_of_getElem? (i := 631) (by decide +kernel)
theorem wm_X8_restAllBut : Cond.instanceMethod yX8_restAllBut ∈ lw_tbl := List.mem_of_getElem? (i := 630) (by decide +kernel)
theorem ws_X8_restAllBut : Cond.selects yX8_restAllBut.cls yX8_restAllBut yX8_restAllBut ∈ lw_tbl := List.mem_of_getElem? (i := 35) (by decide +kernel)
theorem wc_X8_remember : Cond.code mX8_remember.1 mX8_remember.2.1 mX8_remember.2.2.1 mX8_remember.2.2.2 ∈ lw_tbl := List.mem_of_getElem? (i := 635) (by decide +kernel)
theorem wm_X8_remember : Cond.instanceMethod yX8_remember ∈ lw_tbl := List.mem_of_getElem? (i := 634) (by decide +kernel)
theorem ws_X8_remember : Cond.selects yX8_remember.cls yX8_remember yX8_remember ∈ lw_tbl := List.mem_of_getElem? (i := 36) (by decide +kernel)
theorem wc_X9_init : Cond.code mX9_init.1 mX9_init.2.1 mX9_init.2.2.1 mX9_init.2.2.2 ∈ lw_tbl := List.mem_of_getElem? (i := 126) (by decide +kernel)
theorem wm_X9_init : Cond.instanceMethod yX9_init ∈ lw_tbl := List.mem_of_getElem? (i := 125) (by decide +kernel)
theorem wc_X9_add : Cond.code mX9_add.1 mX9_add.2.1 mX9_add.2.2.1 mX9_add.2.2.2 ∈ lw_tbl := List.mem_of_getElem? (i := 434) (by decide +kernel)
theorem wm_X9_add : Cond.instanceMethod yX9_add ∈ lw_tbl := List.mem_of_getElem? (i := 433) (by decide +kernel)
theorem ws_X9_add : Cond.selects yX9_add.cls yX9_add yX9_add ∈ lw_tbl := List.mem_of_getElem? (i := 0) (by decide +kernel)
theorem wc_X9_readInto : Cond.code mX9_readInto.1 mX9_readInto.2.1 mX9_readInto.2.2.1 mX9_readInto.2.2.2 ∈ lw_tbl := List.mem_of_getElem? (i := 442) (by decide +kernel)
theorem wm_X9_readInto : Cond.instanceMethod yX9_readInto ∈ lw_tbl := List.mem_of_getElem? (i := 441) (by decide +kernel)
theorem ws_X9_readInto : Cond.selects yX9_readInto.cls yX9_readInto yX9_readInto ∈ lw_tbl := List.mem_of_getElem? (i := 1) (by decide +kernel)
theorem wc_X9_readClause : Cond.code mX9_readClause.1 mX9_readClause.2.1 mX9_readClause.2.2.1 mX9_readClause.2.2.2 ∈ lw_tbl := List.mem_of_getElem? (i := 461) (by decide +kernel)
theorem wm_X9_readClause : Cond.instanceMethod yX9_readClause ∈ lw_tbl := List.mem_of_getElem? (i := 460) (by decide +kernel)
theorem ws_X9_readClause : Cond.selects yX9_readClause.cls yX9_readClause yX9_readClause ∈ lw_tbl := List.mem_of_getElem? (i := 5) (by decide +kernel)
theorem wc_X9_readGrammar : Cond.code mX9_readGrammar.1 mX9_readGrammar.2.1 mX9_readGrammar.2.2.1 mX9_readGrammar.2.2.2 ∈ lw_tbl := List.mem_of_getElem? (i := 469) (by decide +kernel)
theorem wm_X9_readGrammar : Cond.instanceMethod yX9_readGrammar ∈ lw_tbl := List.mem_of_getElem? (i := 468) (by decide +kernel)
theorem ws_X9_readGrammar : Cond.selects yX9_readGrammar.cls yX9_readGrammar yX9_readGrammar ∈ lw_tbl := List.mem_of_getElem? (i := 7) (by decide +kernel)
theorem wc_X9_readStem : Cond.code mX9_readStem.1 mX9_readStem.2.1 mX9_readStem.2.2.1 mX9_readStem.2.2.2 ∈ lw_tbl := List.mem_of_getElem? (i := 485) (by decide +kernel)
theorem wm_X9_readStem : Cond.instanceMethod yX9_readStem ∈ lw_tbl := List.mem_of_getElem? (i := 484) (by decide +kernel)
theorem ws_X9_readStem : Cond.selects yX9_readStem.cls yX9_readStem yX9_readStem ∈ lw_tbl := List.mem_of_getElem? (i := 11) (by decide +kernel)
theorem wc_X9_readEnding : Cond.code mX9_readEnding.1 mX9_readEnding.2.1 mX9_readEnding.2.2.1 mX9_readEnding.2.2.2 ∈ lw_tbl := List.mem_of_getElem? (i := 493) (by decide +kernel)
theorem wm_X9_readEnding : Cond.instanceMethod yX9_readEnding ∈ lw_tbl := List.mem_of_getElem? (i := 492) (by decide +kernel)
theorem ws_X9_readEnding : Cond.selects yX9_readEnding.cls yX9_readEnding yX9_readEnding ∈ lw_tbl := List.mem_of_getElem? (i := 13) (by decide +kernel)
theorem wc_X9_readSpeaker : Cond.code mX9_readSpeaker.1 mX9_readSpeaker.2.1 mX9_readSpeaker.2.2.1 mX9_readSpeaker.2.2.2 ∈ lw_tbl := List.mem_of_getElem? (i := 501) (by decide +kernel)
theorem wm_X9_readSpeaker : Cond.instanceMethod yX9_readSpeaker ∈ lw_tbl := List.mem_of_getElem? (i := 500) (by decide +kernel)
theorem ws_X9_readSpeaker : Cond.selects yX9_readSpeaker.cls yX9_readSpeaker yX9_readSpeaker ∈ lw_tbl := List.mem_of_getElem? (i := 15) (by decide +kernel)
theorem wc_X9_readBar : Cond.code mX9_readBar.1 mX9_readBar.2.1 mX9_readBar.2.2.1 mX9_readBar.2.2.2 ∈ lw_tbl := List.mem_of_getElem? (i := 509) (by decide +kernel)
theorem wm_X9_readBar : Cond.instanceMethod yX9_readBar ∈ lw_tbl := List.mem_of_getElem? (i := 508) (by decide +kernel)
theorem ws_X9_readBar : Cond.selects yX9_readBar.cls yX9_readBar yX9_readBar ∈ lw_tbl := List.mem_of_getElem? (i := 17) (by decide +kernel)
theorem wc_X9_readWord : Cond.code mX9_readWord.1 mX9_readWord.2.1 mX9_readWord.2.2.1 mX9_readWord.2.2.2 ∈ lw_tbl := List.mem_of_getElem? (i := 473) (by decide +kernel)
theorem wm_X9_readWord : Cond.instanceMethod yX9_readWord ∈ lw_tbl := List.mem_of_getElem? (i := 472) (by decide +kernel)
theorem ws_X9_readWord : Cond.selects yX9_readWord.cls yX9_readWord yX9_readWord ∈ lw_tbl := List.mem_of_getElem? (i := 8) (by decide +kernel)
theorem wc_X9_readNumber : Cond.code mX9_readNumber.1 mX9_readNumber.2.1 mX9_readNumber.2.2.1 mX9_readNumber.2.2.2 ∈ lw_tbl := List.mem_of_getElem? (i := 477) (by decide +kernel)
theorem wm_X9_readNumber : Cond.instanceMethod yX9_readNumber ∈ lw_tbl := List.mem_of_getElem? (i := 476) (by decide +kernel)
theorem ws_X9_readNumber : Cond.selects yX9_readNumber.cls yX9_readNumber yX9_readNumber ∈ lw_tbl := List.mem_of_getElem? (i := 9) (by decide +kernel)
theorem wc_X9_readEnd : Cond.code mX9_readEnd.1 mX9_readEnd.2.1 mX9_readEnd.2.2.1 mX9_readEnd.2.2.2 ∈ lw_tbl := List.mem_of_getElem? (i := 481) (by decide +kernel)
theorem wm_X9_readEnd : Cond.instanceMethod yX9_readEnd ∈ lw_tbl := List.mem_of_getElem? (i := 480) (by decide +kernel)
theorem ws_X9_readEnd : Cond.selects yX9_readEnd.cls yX9_readEnd yX9_readEnd ∈ lw_tbl := List.mem_of_getElem? (i := 10) (by decide +kernel)
theorem wc_X9_skipBlanks : Cond.code mX9_skipBlanks.1 mX9_skipBlanks.2.1 mX9_skipBlanks.2.2.1 mX9_skipBlanks.2.2.2 ∈ lw_tbl := List.mem_of_getElem? (i := 457) (by decide +kernel)
theorem wm_X9_skipBlanks : Cond.instanceMethod yX9_skipBlanks ∈ lw_tbl := List.mem_of_getElem? (i := 456) (by decide +kernel)
theorem ws_X9_skipBlanks : Cond.selects yX9_skipBlanks.cls yX9_skipBlanks yX9_skipBlanks ∈ lw_tbl := List.mem_of_getElem? (i := 4) (by decide +kernel)
theorem wc_X9_fail : Cond.code mX9_fail.1 mX9_fail.2.1 mX9_fail.2.2.1 mX9_fail.2.2.2 ∈ lw_tbl := List.mem_of_getElem? (i := 465) (by decide +kernel)
theorem wm_X9_fail : Cond.instanceMethod yX9_fail ∈ lw_tbl := List.mem_of_getElem? (i := 464) (by decide +kernel)
theorem ws_X9_fail : Cond.selects yX9_fail.cls yX9_fail yX9_fail ∈ lw_tbl := List.mem_of_getElem? (i := 6) (by decide +kernel)
theorem wc_X10_init : Cond.code mX10_init.1 mX10_init.2.1 mX10_init.2.2.1 mX10_init.2.2.2 ∈ lw_tbl := List.mem_of_getElem? (i := 118) (by decide +kernel)
theorem wm_X10_init : Cond.instanceMethod yX10_init ∈ lw_tbl := List.mem_of_getElem? (i := 117) (by decide +kernel)
theorem wc_X10_feed : Cond.code mX10_feed.1 mX10_feed.2.1 mX10_feed.2.2.1 mX10_feed.2.2.2 ∈ lw_tbl := List.mem_of_getElem? (i := 428) (by decide +kernel)
theorem wm_X10_feed : Cond.instanceMethod yX10_feed ∈ lw_tbl := List.mem_of_getElem? (i := 426) (by decide +kernel)
theorem ws_X10_feed : Cond.selects yX10_feed.cls yX10_feed yX10_feed ∈ lw_tbl := List.mem_of_getElem? (i := 427) (by decide +kernel)
theorem wc_X10_feast : Cond.code mX10_feast.1 mX10_feast.2.1 mX10_feast.2.2.1 mX10_feast.2.2.2 ∈ lw_tbl := List.mem_of_getElem? (i := 438) (by decide +kernel)
theorem wm_X10_feast : Cond.instanceMethod yX10_feast ∈ lw_tbl := List.mem_of_getElem? (i := 436) (by decide +kernel)
theorem ws_X10_feast : Cond.selects yX10_feast.cls yX10_feast yX10_feast ∈ lw_tbl := List.mem_of_getElem? (i := 437) (by decide +kernel)
theorem wc_X10_fault : Cond.code mX10_fault.1 mX10_fault.2.1 mX10_fault.2.2.1 mX10_fault.2.2.2 ∈ lw_tbl := List.mem_of_getElem? (i := 544) (by decide +kernel)
theorem wm_X10_fault : Cond.instanceMethod yX10_fault ∈ lw_tbl := List.mem_of_getElem? (i := 542) (by decide +kernel)
theorem ws_X10_fault : Cond.selects yX10_fault.cls yX10_fault yX10_fault ∈ lw_tbl := List.mem_of_getElem? (i := 543) (by decide +kernel)
theorem wc_X10_told : Cond.code mX10_told.1 mX10_told.2.1 mX10_told.2.2.1 mX10_told.2.2.2 ∈ lw_tbl := List.mem_of_getElem? (i := 548) (by decide +kernel)
theorem wm_X10_told : Cond.instanceMethod yX10_told ∈ lw_tbl := List.mem_of_getElem? (i := 546) (by decide +kernel)
theorem ws_X10_told : Cond.selects yX10_told.cls yX10_told yX10_told ∈ lw_tbl := List.mem_of_getElem? (i := 547) (by decide +kernel)
theorem wc_X10_stem : Cond.code mX10_stem.1 mX10_stem.2.1 mX10_stem.2.2.1 mX10_stem.2.2.2 ∈ lw_tbl := List.mem_of_getElem? (i := 552) (by decide +kernel)
theorem wm_X10_stem : Cond.instanceMethod yX10_stem ∈ lw_tbl := List.mem_of_getElem? (i := 550) (by decide +kernel)
theorem ws_X10_stem : Cond.selects yX10_stem.cls yX10_stem yX10_stem ∈ lw_tbl := List.mem_of_getElem? (i := 551) (by decide +kernel)
theorem wc_X10_ending : Cond.code mX10_ending.1 mX10_ending.2.1 mX10_ending.2.2.1 mX10_ending.2.2.2 ∈ lw_tbl := List.mem_of_getElem? (i := 557) (by decide +kernel)
theorem wm_X10_ending : Cond.instanceMethod yX10_ending ∈ lw_tbl := List.mem_of_getElem? (i := 555) (by decide +kernel)
theorem ws_X10_ending : Cond.selects yX10_ending.cls yX10_ending yX10_ending ∈ lw_tbl := List.mem_of_getElem? (i := 556) (by decide +kernel)
theorem wc_X10_speaker : Cond.code mX10_speaker.1 mX10_speaker.2.1 mX10_speaker.2.2.1 mX10_speaker.2.2.2 ∈ lw_tbl := List.mem_of_getElem? (i := 561) (by decide +kernel)
theorem wm_X10_speaker : Cond.instanceMethod yX10_speaker ∈ lw_tbl := List.mem_of_getElem? (i := 559) (by decide +kernel)
theorem ws_X10_speaker : Cond.selects yX10_speaker.cls yX10_speaker yX10_speaker ∈ lw_tbl := List.mem_of_getElem? (i := 560) (by decide +kernel)
theorem wc_X10_length : Cond.code mX10_length.1 mX10_length.2.1 mX10_length.2.2.1 mX10_length.2.2.2 ∈ lw_tbl := List.mem_of_getElem? (i := 565) (by decide +kernel)
theorem wm_X10_length : Cond.instanceMethod yX10_length ∈ lw_tbl := List.mem_of_getElem? (i := 563) (by decide +kernel)
theorem ws_X10_length : Cond.selects yX10_length.cls yX10_length yX10_length ∈ lw_tbl := List.mem_of_getElem? (i := 564) (by decide +kernel)
theorem wc_X10_said : Cond.code mX10_said.1 mX10_said.2.1 mX10_said.2.2.1 mX10_said.2.2.2 ∈ lw_tbl := List.mem_of_getElem? (i := 573) (by decide +kernel)
theorem wm_X10_said : Cond.instanceMethod yX10_said ∈ lw_tbl := List.mem_of_getElem? (i := 571) (by decide +kernel)
theorem ws_X10_said : Cond.selects yX10_said.cls yX10_said yX10_said ∈ lw_tbl := List.mem_of_getElem? (i := 572) (by decide +kernel)
theorem wc_X10_round : Cond.code mX10_round.1 mX10_round.2.1 mX10_round.2.2.1 mX10_round.2.2.2 ∈ lw_tbl := List.mem_of_getElem? (i := 577) (by decide +kernel)
theorem wm_X10_round : Cond.instanceMethod yX10_round ∈ lw_tbl := List.mem_of_getElem? (i := 575) (by decide +kernel)
theorem ws_X10_round : Cond.selects yX10_round.cls yX10_round yX10_round ∈ lw_tbl := List.mem_of_getElem? (i := 576) (by decide +kernel)
theorem wc_X10_drift : Cond.code mX10_drift.1 mX10_drift.2.1 mX10_drift.2.2.1 mX10_drift.2.2.2 ∈ lw_tbl := List.mem_of_getElem? (i := 639) (by decide +kernel)
theorem wm_X10_drift : Cond.instanceMethod yX10_drift ∈ lw_tbl := List.mem_of_getElem? (i := 637) (by decide +kernel)
theorem ws_X10_drift : Cond.selects yX10_drift.cls yX10_drift yX10_drift ∈ lw_tbl := List.mem_of_getElem? (i := 638) (by decide +kernel)
theorem wc_X10_undo : Cond.code mX10_undo.1 mX10_undo.2.1 mX10_undo.2.2.1 mX10_undo.2.2.2 ∈ lw_tbl := List.mem_of_getElem? (i := 668) (by decide +kernel)
theorem wm_X10_undo : Cond.instanceMethod yX10_undo ∈ lw_tbl := List.mem_of_getElem? (i := 666) (by decide +kernel)
theorem ws_X10_undo : Cond.selects yX10_undo.cls yX10_undo yX10_undo ∈ lw_tbl := List.mem_of_getElem? (i := 667) (by decide +kernel)
theorem wc_X10_longest : Cond.code mX10_longest.1 mX10_longest.2.1 mX10_longest.2.2.1 mX10_longest.2.2.2 ∈ lw_tbl := List.mem_of_getElem? (i := 676) (by decide +kernel)
theorem wm_X10_longest : Cond.instanceMethod yX10_longest ∈ lw_tbl := List.mem_of_getElem? (i := 674) (by decide +kernel)
theorem ws_X10_longest : Cond.selects yX10_longest.cls yX10_longest yX10_longest ∈ lw_tbl := List.mem_of_getElem? (i := 675) (by decide +kernel)
theorem wc_X10_howMany : Cond.code mX10_howMany.1 mX10_howMany.2.1 mX10_howMany.2.2.1 mX10_howMany.2.2.2 ∈ lw_tbl := List.mem_of_getElem? (i := 680) (by decide +kernel)
theorem wm_X10_howMany : Cond.instanceMethod yX10_howMany ∈ lw_tbl := List.mem_of_getElem? (i := 678) (by decide +kernel)
theorem ws_X10_howMany : Cond.selects yX10_howMany.cls yX10_howMany yX10_howMany ∈ lw_tbl := List.mem_of_getElem? (i := 679) (by decide +kernel)
theorem wc_X10_game : Cond.code mX10_game.1 mX10_game.2.1 mX10_game.2.2.1 mX10_game.2.2.2 ∈ lw_tbl := List.mem_of_getElem? (i := 684) (by decide +kernel)
theorem wm_X10_game : Cond.instanceMethod yX10_game ∈ lw_tbl := List.mem_of_getElem? (i := 682) (by decide +kernel)
theorem ws_X10_game : Cond.selects yX10_game.cls yX10_game yX10_game ∈ lw_tbl := List.mem_of_getElem? (i := 683) (by decide +kernel)
theorem wc_X10_order : Cond.code mX10_order.1 mX10_order.2.1 mX10_order.2.2.1 mX10_order.2.2.2 ∈ lw_tbl := List.mem_of_getElem? (i := 709) (by decide +kernel)
theorem wm_X10_order : Cond.instanceMethod yX10_order ∈ lw_tbl := List.mem_of_getElem? (i := 707) (by decide +kernel)
theorem ws_X10_order : Cond.selects yX10_order.cls yX10_order yX10_order ∈ lw_tbl := List.mem_of_getElem? (i := 708) (by decide +kernel)
theorem wc_X10_even : Cond.code mX10_even.1 mX10_even.2.1 mX10_even.2.2.1 mX10_even.2.2.2 ∈ lw_tbl := List.mem_of_getElem? (i := 754) (by decide +kernel)
theorem wm_X10_even : Cond.instanceMethod yX10_even ∈ lw_tbl := List.mem_of_getElem? (i := 752) (by decide +kernel)
theorem ws_X10_even : Cond.selects yX10_even.cls yX10_even yX10_even ∈ lw_tbl := List.mem_of_getElem? (i := 753) (by decide +kernel)
theorem wc_X10_silence : Cond.code mX10_silence.1 mX10_silence.2.1 mX10_silence.2.2.1 mX10_silence.2.2.2 ∈ lw_tbl := List.mem_of_getElem? (i := 765) (by decide +kernel)
theorem wm_X10_silence : Cond.instanceMethod yX10_silence ∈ lw_tbl := List.mem_of_getElem? (i := 763) (by decide +kernel)
theorem ws_X10_silence : Cond.selects yX10_silence.cls yX10_silence yX10_silence ∈ lw_tbl := List.mem_of_getElem? (i := 764) (by decide +kernel)
theorem wc_X10_pick : Cond.code mX10_pick.1 mX10_pick.2.1 mX10_pick.2.2.1 mX10_pick.2.2.2 ∈ lw_tbl := List.mem_of_getElem? (i := 774) (by decide +kernel)
theorem wm_X10_pick : Cond.instanceMethod yX10_pick ∈ lw_tbl := List.mem_of_getElem? (i := 772) (by decide +kernel)
theorem ws_X10_pick : Cond.selects yX10_pick.cls yX10_pick yX10_pick ∈ lw_tbl := List.mem_of_getElem? (i := 773) (by decide +kernel)
theorem wc_X10_coughs : Cond.code mX10_coughs.1 mX10_coughs.2.1 mX10_coughs.2.2.1 mX10_coughs.2.2.2 ∈ lw_tbl := List.mem_of_getElem? (i := 789) (by decide +kernel)
theorem wm_X10_coughs : Cond.instanceMethod yX10_coughs ∈ lw_tbl := List.mem_of_getElem? (i := 787) (by decide +kernel)
theorem ws_X10_coughs : Cond.selects yX10_coughs.cls yX10_coughs yX10_coughs ∈ lw_tbl := List.mem_of_getElem? (i := 788) (by decide +kernel)
theorem wc_X10_keepBack : Cond.code mX10_keepBack.1 mX10_keepBack.2.1 mX10_keepBack.2.2.1 mX10_keepBack.2.2.2 ∈ lw_tbl := List.mem_of_getElem? (i := 799) (by decide +kernel)
theorem wm_X10_keepBack : Cond.instanceMethod yX10_keepBack ∈ lw_tbl := List.mem_of_getElem? (i := 797) (by decide +kernel)
theorem ws_X10_keepBack : Cond.selects yX10_keepBack.cls yX10_keepBack yX10_keepBack ∈ lw_tbl := List.mem_of_getElem? (i := 798) (by decide +kernel)
theorem wc_X10_mark : Cond.code mX10_mark.1 mX10_mark.2.1 mX10_mark.2.2.1 mX10_mark.2.2.2 ∈ lw_tbl := List.mem_of_getElem? (i := 807) (by decide +kernel)
theorem wm_X10_mark : Cond.instanceMethod yX10_mark ∈ lw_tbl := List.mem_of_getElem? (i := 805) (by decide +kernel)
theorem ws_X10_mark : Cond.selects yX10_mark.cls yX10_mark yX10_mark ∈ lw_tbl := List.mem_of_getElem? (i := 806) (by decide +kernel)
theorem wc_X10_spoke : Cond.code mX10_spoke.1 mX10_spoke.2.1 mX10_spoke.2.2.1 mX10_spoke.2.2.2 ∈ lw_tbl := List.mem_of_getElem? (i := 811) (by decide +kernel)
theorem wm_X10_spoke : Cond.instanceMethod yX10_spoke ∈ lw_tbl := List.mem_of_getElem? (i := 809) (by decide +kernel)
theorem ws_X10_spoke : Cond.selects yX10_spoke.cls yX10_spoke yX10_spoke ∈ lw_tbl := List.mem_of_getElem? (i := 810) (by decide +kernel)
theorem wc_X10_write : Cond.code mX10_write.1 mX10_write.2.1 mX10_write.2.2.1 mX10_write.2.2.2 ∈ lw_tbl := List.mem_of_getElem? (i := 824) (by decide +kernel)
theorem wm_X10_write : Cond.instanceMethod yX10_write ∈ lw_tbl := List.mem_of_getElem? (i := 822) (by decide +kernel)
theorem ws_X10_write : Cond.selects yX10_write.cls yX10_write yX10_write ∈ lw_tbl := List.mem_of_getElem? (i := 823) (by decide +kernel)
theorem wc_X10_tear : Cond.code mX10_tear.1 mX10_tear.2.1 mX10_tear.2.2.1 mX10_tear.2.2.2 ∈ lw_tbl := List.mem_of_getElem? (i := 828) (by decide +kernel)
theorem wm_X10_tear : Cond.instanceMethod yX10_tear ∈ lw_tbl := List.mem_of_getElem? (i := 826) (by decide +kernel)
theorem ws_X10_tear : Cond.selects yX10_tear.cls yX10_tear yX10_tear ∈ lw_tbl := List.mem_of_getElem? (i := 827) (by decide +kernel)
theorem wc_X10_judge : Cond.code mX10_judge.1 mX10_judge.2.1 mX10_judge.2.2.1 mX10_judge.2.2.2 ∈ lw_tbl := List.mem_of_getElem? (i := 832) (by decide +kernel)
theorem wm_X10_judge : Cond.instanceMethod yX10_judge ∈ lw_tbl := List.mem_of_getElem? (i := 830) (by decide +kernel)
theorem ws_X10_judge : Cond.selects yX10_judge.cls yX10_judge yX10_judge ∈ lw_tbl := List.mem_of_getElem? (i := 831) (by decide +kernel)
theorem wc_X10_seed : Cond.code mX10_seed.1 mX10_seed.2.1 mX10_seed.2.2.1 mX10_seed.2.2.2 ∈ lw_tbl := List.mem_of_getElem? (i := 836) (by decide +kernel)
theorem wm_X10_seed : Cond.instanceMethod yX10_seed ∈ lw_tbl := List.mem_of_getElem? (i := 834) (by decide +kernel)
theorem ws_X10_seed : Cond.selects yX10_seed.cls yX10_seed yX10_seed ∈ lw_tbl := List.mem_of_getElem? (i := 835) (by decide +kernel)
theorem wc_X10_keep : Cond.code mX10_keep.1 mX10_keep.2.1 mX10_keep.2.2.1 mX10_keep.2.2.2 ∈ lw_tbl := List.mem_of_getElem? (i := 840) (by decide +kernel)
theorem wm_X10_keep : Cond.instanceMethod yX10_keep ∈ lw_tbl := List.mem_of_getElem? (i := 838) (by decide +kernel)
theorem ws_X10_keep : Cond.selects yX10_keep.cls yX10_keep yX10_keep ∈ lw_tbl := List.mem_of_getElem? (i := 839) (by decide +kernel)
theorem wc_X10_goBack : Cond.code mX10_goBack.1 mX10_goBack.2.1 mX10_goBack.2.2.1 mX10_goBack.2.2.2 ∈ lw_tbl := List.mem_of_getElem? (i := 845) (by decide +kernel)
theorem wm_X10_goBack : Cond.instanceMethod yX10_goBack ∈ lw_tbl := List.mem_of_getElem? (i := 843) (by decide +kernel)
theorem ws_X10_goBack : Cond.selects yX10_goBack.cls yX10_goBack yX10_goBack ∈ lw_tbl := List.mem_of_getElem? (i := 844) (by decide +kernel)
theorem wc_X10_isSide : Cond.code mX10_isSide.1 mX10_isSide.2.1 mX10_isSide.2.2.1 mX10_isSide.2.2.2 ∈ lw_tbl := List.mem_of_getElem? (i := 712) (by decide +kernel)
theorem wt_X10_isSide : Cond.static yX10_isSide ∈ lw_tbl := List.mem_of_getElem? (i := 711) (by decide +kernel)
theorem wc_X10_areOpponents : Cond.code mX10_areOpponents.1 mX10_areOpponents.2.1 mX10_areOpponents.2.2.1 mX10_areOpponents.2.2.2 ∈ lw_tbl := List.mem_of_getElem? (i := 581) (by decide +kernel)
theorem wm_X10_areOpponents : Cond.instanceMethod yX10_areOpponents ∈ lw_tbl := List.mem_of_getElem? (i := 580) (by decide +kernel)
theorem ws_X10_areOpponents : Cond.selects yX10_areOpponents.cls yX10_areOpponents yX10_areOpponents ∈ lw_tbl := List.mem_of_getElem? (i := 25) (by decide +kernel)
theorem wc_X10_maySay : Cond.code mX10_maySay.1 mX10_maySay.2.1 mX10_maySay.2.2.1 mX10_maySay.2.2.2 ∈ lw_tbl := List.mem_of_getElem? (i := 589) (by decide +kernel)
theorem wm_X10_maySay : Cond.instanceMethod yX10_maySay ∈ lw_tbl := List.mem_of_getElem? (i := 588) (by decide +kernel)
theorem ws_X10_maySay : Cond.selects yX10_maySay.cls yX10_maySay yX10_maySay ∈ lw_tbl := List.mem_of_getElem? (i := 27) (by decide +kernel)
theorem wc_X10_drawnWord : Cond.code mX10_drawnWord.1 mX10_drawnWord.2.1 mX10_drawnWord.2.2.1 mX10_drawnWord.2.2.2 ∈ lw_tbl := List.mem_of_getElem? (i := 659) (by decide +kernel)
theorem wm_X10_drawnWord : Cond.instanceMethod yX10_drawnWord ∈ lw_tbl := List.mem_of_getElem? (i := 658) (by decide +kernel)
theorem ws_X10_drawnWord : Cond.selects yX10_drawnWord.cls yX10_drawnWord yX10_drawnWord ∈ lw_tbl := List.mem_of_getElem? (i := 40) (by decide +kernel)
theorem wc_X10_gainOf : Cond.code mX10_gainOf.1 mX10_gainOf.2.1 mX10_gainOf.2.2.1 mX10_gainOf.2.2.2 ∈ lw_tbl := List.mem_of_getElem? (i := 769) (by decide +kernel)
theorem wm_X10_gainOf : Cond.instanceMethod yX10_gainOf ∈ lw_tbl := List.mem_of_getElem? (i := 768) (by decide +kernel)
theorem ws_X10_gainOf : Cond.selects yX10_gainOf.cls yX10_gainOf yX10_gainOf ∈ lw_tbl := List.mem_of_getElem? (i := 56) (by decide +kernel)
theorem wc_X11_init : Cond.code mX11_init.1 mX11_init.2.1 mX11_init.2.2.1 mX11_init.2.2.2 ∈ lw_tbl := List.mem_of_getElem? (i := 850) (by decide +kernel)
theorem wm_X11_init : Cond.instanceMethod yX11_init ∈ lw_tbl := List.mem_of_getElem? (i := 849) (by decide +kernel)
theorem wc_X11_in : Cond.code mX11_in.1 mX11_in.2.1 mX11_in.2.2.1 mX11_in.2.2.2 ∈ lw_tbl := List.mem_of_getElem? (i := 993) (by decide +kernel)
theorem wt_X11_in : Cond.static yX11_in ∈ lw_tbl := List.mem_of_getElem? (i := 992) (by decide +kernel)
theorem wc_X11_has : Cond.code mX11_has.1 mX11_has.2.1 mX11_has.2.2.1 mX11_has.2.2.2 ∈ lw_tbl := List.mem_of_getElem? (i := 1044) (by decide +kernel)
theorem wt_X11_has : Cond.static yX11_has ∈ lw_tbl := List.mem_of_getElem? (i := 1043) (by decide +kernel)
theorem wc_X11_isSpeaker : Cond.code mX11_isSpeaker.1 mX11_isSpeaker.2.1 mX11_isSpeaker.2.2.1 mX11_isSpeaker.2.2.2 ∈ lw_tbl := List.mem_of_getElem? (i := 1082) (by decide +kernel)
theorem wm_X11_isSpeaker : Cond.instanceMethod yX11_isSpeaker ∈ lw_tbl := List.mem_of_getElem? (i := 1081) (by decide +kernel)
theorem ws_X11_isSpeaker : Cond.selects yX11_isSpeaker.cls yX11_isSpeaker yX11_isSpeaker ∈ lw_tbl := List.mem_of_getElem? (i := 76) (by decide +kernel)
theorem wc_X11_isOf : Cond.code mX11_isOf.1 mX11_isOf.2.1 mX11_isOf.2.2.1 mX11_isOf.2.2.2 ∈ lw_tbl := List.mem_of_getElem? (i := 1111) (by decide +kernel)
theorem wm_X11_isOf : Cond.instanceMethod yX11_isOf ∈ lw_tbl := List.mem_of_getElem? (i := 1110) (by decide +kernel)
theorem ws_X11_isOf : Cond.selects yX11_isOf.cls yX11_isOf yX11_isOf ∈ lw_tbl := List.mem_of_getElem? (i := 78) (by decide +kernel)
theorem wc_X11_feed : Cond.code mX11_feed.1 mX11_feed.2.1 mX11_feed.2.2.1 mX11_feed.2.2.2 ∈ lw_tbl := List.mem_of_getElem? (i := 989) (by decide +kernel)
theorem wm_X11_feed : Cond.instanceMethod yX11_feed ∈ lw_tbl := List.mem_of_getElem? (i := 987) (by decide +kernel)
theorem ws_X11_feed : Cond.selects yX11_feed.cls yX11_feed yX11_feed ∈ lw_tbl := List.mem_of_getElem? (i := 988) (by decide +kernel)
theorem wc_X11_here : Cond.code mX11_here.1 mX11_here.2.1 mX11_here.2.2.1 mX11_here.2.2.2 ∈ lw_tbl := List.mem_of_getElem? (i := 1003) (by decide +kernel)
theorem wm_X11_here : Cond.instanceMethod yX11_here ∈ lw_tbl := List.mem_of_getElem? (i := 1002) (by decide +kernel)
theorem ws_X11_here : Cond.selects yX11_here.cls yX11_here yX11_here ∈ lw_tbl := List.mem_of_getElem? (i := 63) (by decide +kernel)
theorem wc_X11_fails : Cond.code mX11_fails.1 mX11_fails.2.1 mX11_fails.2.2.1 mX11_fails.2.2.2 ∈ lw_tbl := List.mem_of_getElem? (i := 1011) (by decide +kernel)
theorem wm_X11_fails : Cond.instanceMethod yX11_fails ∈ lw_tbl := List.mem_of_getElem? (i := 1010) (by decide +kernel)
theorem ws_X11_fails : Cond.selects yX11_fails.cls yX11_fails yX11_fails ∈ lw_tbl := List.mem_of_getElem? (i := 65) (by decide +kernel)
theorem wc_X11_takeNumber : Cond.code mX11_takeNumber.1 mX11_takeNumber.2.1 mX11_takeNumber.2.2.1 mX11_takeNumber.2.2.2 ∈ lw_tbl := List.mem_of_getElem? (i := 1023) (by decide +kernel)
theorem wm_X11_takeNumber : Cond.instanceMethod yX11_takeNumber ∈ lw_tbl := List.mem_of_getElem? (i := 1022) (by decide +kernel)
theorem ws_X11_takeNumber : Cond.selects yX11_takeNumber.cls yX11_takeNumber yX11_takeNumber ∈ lw_tbl := List.mem_of_getElem? (i := 68) (by decide +kernel)
theorem wc_X11_into : Cond.code mX11_into.1 mX11_into.2.1 mX11_into.2.2.1 mX11_into.2.2.2 ∈ lw_tbl := List.mem_of_getElem? (i := 1019) (by decide +kernel)
theorem wm_X11_into : Cond.instanceMethod yX11_into ∈ lw_tbl := List.mem_of_getElem? (i := 1018) (by decide +kernel)
theorem ws_X11_into : Cond.selects yX11_into.cls yX11_into yX11_into ∈ lw_tbl := List.mem_of_getElem? (i := 67) (by decide +kernel)
theorem wc_X11_takeGrammar : Cond.code mX11_takeGrammar.1 mX11_takeGrammar.2.1 mX11_takeGrammar.2.2.1 mX11_takeGrammar.2.2.2 ∈ lw_tbl := List.mem_of_getElem? (i := 1015) (by decide +kernel)
theorem wm_X11_takeGrammar : Cond.instanceMethod yX11_takeGrammar ∈ lw_tbl := List.mem_of_getElem? (i := 1014) (by decide +kernel)
theorem ws_X11_takeGrammar : Cond.selects yX11_takeGrammar.cls yX11_takeGrammar yX11_takeGrammar ∈ lw_tbl := List.mem_of_getElem? (i := 66) (by decide +kernel)
theorem wc_X11_takeStem : Cond.code mX11_takeStem.1 mX11_takeStem.2.1 mX11_takeStem.2.2.1 mX11_takeStem.2.2.2 ∈ lw_tbl := List.mem_of_getElem? (i := 1029) (by decide +kernel)
theorem wm_X11_takeStem : Cond.instanceMethod yX11_takeStem ∈ lw_tbl := List.mem_of_getElem? (i := 1028) (by decide +kernel)
theorem ws_X11_takeStem : Cond.selects yX11_takeStem.cls yX11_takeStem yX11_takeStem ∈ lw_tbl := List.mem_of_getElem? (i := 69) (by decide +kernel)
theorem wc_X11_takeEnding : Cond.code mX11_takeEnding.1 mX11_takeEnding.2.1 mX11_takeEnding.2.2.1 mX11_takeEnding.2.2.2 ∈ lw_tbl := List.mem_of_getElem? (i := 1033) (by decide +kernel)
theorem wm_X11_takeEnding : Cond.instanceMethod yX11_takeEnding ∈ lw_tbl := List.mem_of_getElem? (i := 1032) (by decide +kernel)
theorem ws_X11_takeEnding : Cond.selects yX11_takeEnding.cls yX11_takeEnding yX11_takeEnding ∈ lw_tbl := List.mem_of_getElem? (i := 70) (by decide +kernel)
theorem wc_X11_takeSpeaker : Cond.code mX11_takeSpeaker.1 mX11_takeSpeaker.2.1 mX11_takeSpeaker.2.2.1 mX11_takeSpeaker.2.2.2 ∈ lw_tbl := List.mem_of_getElem? (i := 1037) (by decide +kernel)
theorem wm_X11_takeSpeaker : Cond.instanceMethod yX11_takeSpeaker ∈ lw_tbl := List.mem_of_getElem? (i := 1036) (by decide +kernel)
theorem ws_X11_takeSpeaker : Cond.selects yX11_takeSpeaker.cls yX11_takeSpeaker yX11_takeSpeaker ∈ lw_tbl := List.mem_of_getElem? (i := 71) (by decide +kernel)
theorem wc_X11_takeBar : Cond.code mX11_takeBar.1 mX11_takeBar.2.1 mX11_takeBar.2.2.1 mX11_takeBar.2.2.2 ∈ lw_tbl := List.mem_of_getElem? (i := 1041) (by decide +kernel)
theorem wm_X11_takeBar : Cond.instanceMethod yX11_takeBar ∈ lw_tbl := List.mem_of_getElem? (i := 1040) (by decide +kernel)
theorem ws_X11_takeBar : Cond.selects yX11_takeBar.cls yX11_takeBar yX11_takeBar ∈ lw_tbl := List.mem_of_getElem? (i := 72) (by decide +kernel)
theorem wc_X11_takeClause : Cond.code mX11_takeClause.1 mX11_takeClause.2.1 mX11_takeClause.2.2.1 mX11_takeClause.2.2.2 ∈ lw_tbl := List.mem_of_getElem? (i := 1007) (by decide +kernel)
theorem wm_X11_takeClause : Cond.instanceMethod yX11_takeClause ∈ lw_tbl := List.mem_of_getElem? (i := 1006) (by decide +kernel)
theorem ws_X11_takeClause : Cond.selects yX11_takeClause.cls yX11_takeClause yX11_takeClause ∈ lw_tbl := List.mem_of_getElem? (i := 64) (by decide +kernel)
theorem wc_X11_takeRead : Cond.code mX11_takeRead.1 mX11_takeRead.2.1 mX11_takeRead.2.2.1 mX11_takeRead.2.2.2 ∈ lw_tbl := List.mem_of_getElem? (i := 1048) (by decide +kernel)
theorem wm_X11_takeRead : Cond.instanceMethod yX11_takeRead ∈ lw_tbl := List.mem_of_getElem? (i := 1047) (by decide +kernel)
theorem ws_X11_takeRead : Cond.selects yX11_takeRead.cls yX11_takeRead yX11_takeRead ∈ lw_tbl := List.mem_of_getElem? (i := 73) (by decide +kernel)
theorem wc_X11_feast : Cond.code mX11_feast.1 mX11_feast.2.1 mX11_feast.2.2.1 mX11_feast.2.2.2 ∈ lw_tbl := List.mem_of_getElem? (i := 999) (by decide +kernel)
theorem wm_X11_feast : Cond.instanceMethod yX11_feast ∈ lw_tbl := List.mem_of_getElem? (i := 997) (by decide +kernel)
theorem ws_X11_feast : Cond.selects yX11_feast.cls yX11_feast yX11_feast ∈ lw_tbl := List.mem_of_getElem? (i := 998) (by decide +kernel)
theorem wc_X11_fault : Cond.code mX11_fault.1 mX11_fault.2.1 mX11_fault.2.2.1 mX11_fault.2.2.2 ∈ lw_tbl := List.mem_of_getElem? (i := 1061) (by decide +kernel)
theorem wm_X11_fault : Cond.instanceMethod yX11_fault ∈ lw_tbl := List.mem_of_getElem? (i := 1059) (by decide +kernel)
theorem ws_X11_fault : Cond.selects yX11_fault.cls yX11_fault yX11_fault ∈ lw_tbl := List.mem_of_getElem? (i := 1060) (by decide +kernel)
theorem wc_X11_told : Cond.code mX11_told.1 mX11_told.2.1 mX11_told.2.2.1 mX11_told.2.2.2 ∈ lw_tbl := List.mem_of_getElem? (i := 1065) (by decide +kernel)
theorem wm_X11_told : Cond.instanceMethod yX11_told ∈ lw_tbl := List.mem_of_getElem? (i := 1063) (by decide +kernel)
theorem ws_X11_told : Cond.selects yX11_told.cls yX11_told yX11_told ∈ lw_tbl := List.mem_of_getElem? (i := 1064) (by decide +kernel)
theorem wc_X11_stem : Cond.code mX11_stem.1 mX11_stem.2.1 mX11_stem.2.2.1 mX11_stem.2.2.2 ∈ lw_tbl := List.mem_of_getElem? (i := 1069) (by decide +kernel)
theorem wm_X11_stem : Cond.instanceMethod yX11_stem ∈ lw_tbl := List.mem_of_getElem? (i := 1067) (by decide +kernel)
theorem ws_X11_stem : Cond.selects yX11_stem.cls yX11_stem yX11_stem ∈ lw_tbl := List.mem_of_getElem? (i := 1068) (by decide +kernel)
theorem wc_X11_ending : Cond.code mX11_ending.1 mX11_ending.2.1 mX11_ending.2.2.1 mX11_ending.2.2.2 ∈ lw_tbl := List.mem_of_getElem? (i := 1074) (by decide +kernel)
theorem wm_X11_ending : Cond.instanceMethod yX11_ending ∈ lw_tbl := List.mem_of_getElem? (i := 1072) (by decide +kernel)
theorem ws_X11_ending : Cond.selects yX11_ending.cls yX11_ending yX11_ending ∈ lw_tbl := List.mem_of_getElem? (i := 1073) (by decide +kernel)
theorem wc_X11_speaker : Cond.code mX11_speaker.1 mX11_speaker.2.1 mX11_speaker.2.2.1 mX11_speaker.2.2.2 ∈ lw_tbl := List.mem_of_getElem? (i := 1078) (by decide +kernel)
theorem wm_X11_speaker : Cond.instanceMethod yX11_speaker ∈ lw_tbl := List.mem_of_getElem? (i := 1076) (by decide +kernel)
theorem ws_X11_speaker : Cond.selects yX11_speaker.cls yX11_speaker yX11_speaker ∈ lw_tbl := List.mem_of_getElem? (i := 1077) (by decide +kernel)
theorem wc_X11_lengthOf : Cond.code mX11_lengthOf.1 mX11_lengthOf.2.1 mX11_lengthOf.2.2.1 mX11_lengthOf.2.2.2 ∈ lw_tbl := List.mem_of_getElem? (i := 1057) (by decide +kernel)
theorem wm_X11_lengthOf : Cond.instanceMethod yX11_lengthOf ∈ lw_tbl := List.mem_of_getElem? (i := 1056) (by decide +kernel)
theorem ws_X11_lengthOf : Cond.selects yX11_lengthOf.cls yX11_lengthOf yX11_lengthOf ∈ lw_tbl := List.mem_of_getElem? (i := 75) (by decide +kernel)
theorem wc_X11_length : Cond.code mX11_length.1 mX11_length.2.1 mX11_length.2.2.1 mX11_length.2.2.2 ∈ lw_tbl := List.mem_of_getElem? (i := 1086) (by decide +kernel)
theorem wm_X11_length : Cond.instanceMethod yX11_length ∈ lw_tbl := List.mem_of_getElem? (i := 1084) (by decide +kernel)
theorem ws_X11_length : Cond.selects yX11_length.cls yX11_length yX11_length ∈ lw_tbl := List.mem_of_getElem? (i := 1085) (by decide +kernel)
theorem wc_X11_findWords : Cond.code mX11_findWords.1 mX11_findWords.2.1 mX11_findWords.2.2.1 mX11_findWords.2.2.2 ∈ lw_tbl := List.mem_of_getElem? (i := 1052) (by decide +kernel)
theorem wm_X11_findWords : Cond.instanceMethod yX11_findWords ∈ lw_tbl := List.mem_of_getElem? (i := 1051) (by decide +kernel)
theorem ws_X11_findWords : Cond.selects yX11_findWords.cls yX11_findWords yX11_findWords ∈ lw_tbl := List.mem_of_getElem? (i := 74) (by decide +kernel)
theorem wc_X11_longestOf : Cond.code mX11_longestOf.1 mX11_longestOf.2.1 mX11_longestOf.2.2.1 mX11_longestOf.2.2.2 ∈ lw_tbl := List.mem_of_getElem? (i := 1095) (by decide +kernel)
theorem wm_X11_longestOf : Cond.instanceMethod yX11_longestOf ∈ lw_tbl := List.mem_of_getElem? (i := 1094) (by decide +kernel)
theorem ws_X11_longestOf : Cond.selects yX11_longestOf.cls yX11_longestOf yX11_longestOf ∈ lw_tbl := List.mem_of_getElem? (i := 77) (by decide +kernel)
theorem wc_X11_longest : Cond.code mX11_longest.1 mX11_longest.2.1 mX11_longest.2.2.1 mX11_longest.2.2.2 ∈ lw_tbl := List.mem_of_getElem? (i := 1090) (by decide +kernel)
theorem wm_X11_longest : Cond.instanceMethod yX11_longest ∈ lw_tbl := List.mem_of_getElem? (i := 1088) (by decide +kernel)
theorem ws_X11_longest : Cond.selects yX11_longest.cls yX11_longest yX11_longest ∈ lw_tbl := List.mem_of_getElem? (i := 1089) (by decide +kernel)
theorem wc_X11_howMany : Cond.code mX11_howMany.1 mX11_howMany.2.1 mX11_howMany.2.2.1 mX11_howMany.2.2.2 ∈ lw_tbl := List.mem_of_getElem? (i := 1099) (by decide +kernel)
theorem wm_X11_howMany : Cond.instanceMethod yX11_howMany ∈ lw_tbl := List.mem_of_getElem? (i := 1097) (by decide +kernel)
theorem ws_X11_howMany : Cond.selects yX11_howMany.cls yX11_howMany yX11_howMany ∈ lw_tbl := List.mem_of_getElem? (i := 1098) (by decide +kernel)
theorem wc_X11_said : Cond.code mX11_said.1 mX11_said.2.1 mX11_said.2.2.1 mX11_said.2.2.2 ∈ lw_tbl := List.mem_of_getElem? (i := 1103) (by decide +kernel)
theorem wm_X11_said : Cond.instanceMethod yX11_said ∈ lw_tbl := List.mem_of_getElem? (i := 1101) (by decide +kernel)
theorem ws_X11_said : Cond.selects yX11_said.cls yX11_said yX11_said ∈ lw_tbl := List.mem_of_getElem? (i := 1102) (by decide +kernel)
theorem wc_X11_wasSaid : Cond.code mX11_wasSaid.1 mX11_wasSaid.2.1 mX11_wasSaid.2.2.1 mX11_wasSaid.2.2.2 ∈ lw_tbl := List.mem_of_getElem? (i := 1119) (by decide +kernel)
theorem wm_X11_wasSaid : Cond.instanceMethod yX11_wasSaid ∈ lw_tbl := List.mem_of_getElem? (i := 1118) (by decide +kernel)
theorem ws_X11_wasSaid : Cond.selects yX11_wasSaid.cls yX11_wasSaid yX11_wasSaid ∈ lw_tbl := List.mem_of_getElem? (i := 80) (by decide +kernel)
theorem wc_X11_say : Cond.code mX11_say.1 mX11_say.2.1 mX11_say.2.2.1 mX11_say.2.2.2 ∈ lw_tbl := List.mem_of_getElem? (i := 1148) (by decide +kernel)
theorem wm_X11_say : Cond.instanceMethod yX11_say ∈ lw_tbl := List.mem_of_getElem? (i := 1147) (by decide +kernel)
theorem ws_X11_say : Cond.selects yX11_say.cls yX11_say yX11_say ∈ lw_tbl := List.mem_of_getElem? (i := 86) (by decide +kernel)
theorem wc_X11_remember : Cond.code mX11_remember.1 mX11_remember.2.1 mX11_remember.2.2.1 mX11_remember.2.2.2 ∈ lw_tbl := List.mem_of_getElem? (i := 1125) (by decide +kernel)
theorem wm_X11_remember : Cond.instanceMethod yX11_remember ∈ lw_tbl := List.mem_of_getElem? (i := 1124) (by decide +kernel)
theorem ws_X11_remember : Cond.selects yX11_remember.cls yX11_remember yX11_remember ∈ lw_tbl := List.mem_of_getElem? (i := 81) (by decide +kernel)
theorem wc_X11_pullOf : Cond.code mX11_pullOf.1 mX11_pullOf.2.1 mX11_pullOf.2.2.1 mX11_pullOf.2.2.2 ∈ lw_tbl := List.mem_of_getElem? (i := 1141) (by decide +kernel)
theorem wm_X11_pullOf : Cond.instanceMethod yX11_pullOf ∈ lw_tbl := List.mem_of_getElem? (i := 1140) (by decide +kernel)
theorem ws_X11_pullOf : Cond.selects yX11_pullOf.cls yX11_pullOf yX11_pullOf ∈ lw_tbl := List.mem_of_getElem? (i := 85) (by decide +kernel)
theorem wc_X11_goesBy : Cond.code mX11_goesBy.1 mX11_goesBy.2.1 mX11_goesBy.2.2.1 mX11_goesBy.2.2.2 ∈ lw_tbl := List.mem_of_getElem? (i := 1137) (by decide +kernel)
theorem wm_X11_goesBy : Cond.instanceMethod yX11_goesBy ∈ lw_tbl := List.mem_of_getElem? (i := 1136) (by decide +kernel)
theorem ws_X11_goesBy : Cond.selects yX11_goesBy.cls yX11_goesBy yX11_goesBy ∈ lw_tbl := List.mem_of_getElem? (i := 84) (by decide +kernel)
theorem wc_X11_held : Cond.code mX11_held.1 mX11_held.2.1 mX11_held.2.2.1 mX11_held.2.2.2 ∈ lw_tbl := List.mem_of_getElem? (i := 1144) (by decide +kernel)
theorem wt_X11_held : Cond.static yX11_held ∈ lw_tbl := List.mem_of_getElem? (i := 1143) (by decide +kernel)
theorem wc_X11_lengthSaid : Cond.code mX11_lengthSaid.1 mX11_lengthSaid.2.1 mX11_lengthSaid.2.2.1 mX11_lengthSaid.2.2.2 ∈ lw_tbl := List.mem_of_getElem? (i := 1133) (by decide +kernel)
theorem wm_X11_lengthSaid : Cond.instanceMethod yX11_lengthSaid ∈ lw_tbl := List.mem_of_getElem? (i := 1132) (by decide +kernel)
theorem ws_X11_lengthSaid : Cond.selects yX11_lengthSaid.cls yX11_lengthSaid yX11_lengthSaid ∈ lw_tbl := List.mem_of_getElem? (i := 83) (by decide +kernel)
theorem wc_X11_roundNow : Cond.code mX11_roundNow.1 mX11_roundNow.2.1 mX11_roundNow.2.2.1 mX11_roundNow.2.2.2 ∈ lw_tbl := List.mem_of_getElem? (i := 1129) (by decide +kernel)
theorem wm_X11_roundNow : Cond.instanceMethod yX11_roundNow ∈ lw_tbl := List.mem_of_getElem? (i := 1128) (by decide +kernel)
theorem ws_X11_roundNow : Cond.selects yX11_roundNow.cls yX11_roundNow yX11_roundNow ∈ lw_tbl := List.mem_of_getElem? (i := 82) (by decide +kernel)
theorem wc_X11_canSay : Cond.code mX11_canSay.1 mX11_canSay.2.1 mX11_canSay.2.2.1 mX11_canSay.2.2.2 ∈ lw_tbl := List.mem_of_getElem? (i := 1115) (by decide +kernel)
theorem wm_X11_canSay : Cond.instanceMethod yX11_canSay ∈ lw_tbl := List.mem_of_getElem? (i := 1114) (by decide +kernel)
theorem ws_X11_canSay : Cond.selects yX11_canSay.cls yX11_canSay yX11_canSay ∈ lw_tbl := List.mem_of_getElem? (i := 79) (by decide +kernel)
theorem wc_X11_round : Cond.code mX11_round.1 mX11_round.2.1 mX11_round.2.2.1 mX11_round.2.2.2 ∈ lw_tbl := List.mem_of_getElem? (i := 1107) (by decide +kernel)
theorem wm_X11_round : Cond.instanceMethod yX11_round ∈ lw_tbl := List.mem_of_getElem? (i := 1105) (by decide +kernel)
theorem ws_X11_round : Cond.selects yX11_round.cls yX11_round yX11_round ∈ lw_tbl := List.mem_of_getElem? (i := 1106) (by decide +kernel)
theorem wc_X11_draw : Cond.code mX11_draw.1 mX11_draw.2.1 mX11_draw.2.2.1 mX11_draw.2.2.2 ∈ lw_tbl := List.mem_of_getElem? (i := 1160) (by decide +kernel)
theorem wm_X11_draw : Cond.instanceMethod yX11_draw ∈ lw_tbl := List.mem_of_getElem? (i := 1159) (by decide +kernel)
theorem ws_X11_draw : Cond.selects yX11_draw.cls yX11_draw yX11_draw ∈ lw_tbl := List.mem_of_getElem? (i := 88) (by decide +kernel)
theorem wc_X11_manyOfSide : Cond.code mX11_manyOfSide.1 mX11_manyOfSide.2.1 mX11_manyOfSide.2.2.1 mX11_manyOfSide.2.2.2 ∈ lw_tbl := List.mem_of_getElem? (i := 1156) (by decide +kernel)
theorem wm_X11_manyOfSide : Cond.instanceMethod yX11_manyOfSide ∈ lw_tbl := List.mem_of_getElem? (i := 1155) (by decide +kernel)
theorem ws_X11_manyOfSide : Cond.selects yX11_manyOfSide.cls yX11_manyOfSide yX11_manyOfSide ∈ lw_tbl := List.mem_of_getElem? (i := 87) (by decide +kernel)
theorem wc_X11_speakerOf : Cond.code mX11_speakerOf.1 mX11_speakerOf.2.1 mX11_speakerOf.2.2.1 mX11_speakerOf.2.2.2 ∈ lw_tbl := List.mem_of_getElem? (i := 1168) (by decide +kernel)
theorem wm_X11_speakerOf : Cond.instanceMethod yX11_speakerOf ∈ lw_tbl := List.mem_of_getElem? (i := 1167) (by decide +kernel)
theorem ws_X11_speakerOf : Cond.selects yX11_speakerOf.cls yX11_speakerOf yX11_speakerOf ∈ lw_tbl := List.mem_of_getElem? (i := 89) (by decide +kernel)
theorem wc_X11_drawn : Cond.code mX11_drawn.1 mX11_drawn.2.1 mX11_drawn.2.2.1 mX11_drawn.2.2.2 ∈ lw_tbl := List.mem_of_getElem? (i := 1172) (by decide +kernel)
theorem wm_X11_drawn : Cond.instanceMethod yX11_drawn ∈ lw_tbl := List.mem_of_getElem? (i := 1171) (by decide +kernel)
theorem ws_X11_drawn : Cond.selects yX11_drawn.cls yX11_drawn yX11_drawn ∈ lw_tbl := List.mem_of_getElem? (i := 90) (by decide +kernel)
theorem wc_X11_drift : Cond.code mX11_drift.1 mX11_drift.2.1 mX11_drift.2.2.1 mX11_drift.2.2.2 ∈ lw_tbl := List.mem_of_getElem? (i := 1152) (by decide +kernel)
theorem wm_X11_drift : Cond.instanceMethod yX11_drift ∈ lw_tbl := List.mem_of_getElem? (i := 1150) (by decide +kernel)
theorem ws_X11_drift : Cond.selects yX11_drift.cls yX11_drift yX11_drift ∈ lw_tbl := List.mem_of_getElem? (i := 1151) (by decide +kernel)
theorem wc_X11_undo : Cond.code mX11_undo.1 mX11_undo.2.1 mX11_undo.2.2.1 mX11_undo.2.2.2 ∈ lw_tbl := List.mem_of_getElem? (i := 1176) (by decide +kernel)
theorem wm_X11_undo : Cond.instanceMethod yX11_undo ∈ lw_tbl := List.mem_of_getElem? (i := 1174) (by decide +kernel)
theorem ws_X11_undo : Cond.selects yX11_undo.cls yX11_undo yX11_undo ∈ lw_tbl := List.mem_of_getElem? (i := 1175) (by decide +kernel)
theorem wc_X11_game : Cond.code mX11_game.1 mX11_game.2.1 mX11_game.2.2.1 mX11_game.2.2.2 ∈ lw_tbl := List.mem_of_getElem? (i := 1180) (by decide +kernel)
theorem wm_X11_game : Cond.instanceMethod yX11_game ∈ lw_tbl := List.mem_of_getElem? (i := 1178) (by decide +kernel)
theorem ws_X11_game : Cond.selects yX11_game.cls yX11_game yX11_game ∈ lw_tbl := List.mem_of_getElem? (i := 1179) (by decide +kernel)
theorem wc_X11_figure : Cond.code mX11_figure.1 mX11_figure.2.1 mX11_figure.2.2.1 mX11_figure.2.2.2 ∈ lw_tbl := List.mem_of_getElem? (i := 1193) (by decide +kernel)
theorem wt_X11_figure : Cond.static yX11_figure ∈ lw_tbl := List.mem_of_getElem? (i := 1192) (by decide +kernel)
theorem wc_X11_pullAt : Cond.code mX11_pullAt.1 mX11_pullAt.2.1 mX11_pullAt.2.2.1 mX11_pullAt.2.2.2 ∈ lw_tbl := List.mem_of_getElem? (i := 1197) (by decide +kernel)
theorem wm_X11_pullAt : Cond.instanceMethod yX11_pullAt ∈ lw_tbl := List.mem_of_getElem? (i := 1196) (by decide +kernel)
theorem ws_X11_pullAt : Cond.selects yX11_pullAt.cls yX11_pullAt yX11_pullAt ∈ lw_tbl := List.mem_of_getElem? (i := 92) (by decide +kernel)
theorem wc_X11_farBy : Cond.code mX11_farBy.1 mX11_farBy.2.1 mX11_farBy.2.2.1 mX11_farBy.2.2.2 ∈ lw_tbl := List.mem_of_getElem? (i := 1190) (by decide +kernel)
theorem wm_X11_farBy : Cond.instanceMethod yX11_farBy ∈ lw_tbl := List.mem_of_getElem? (i := 1189) (by decide +kernel)
theorem ws_X11_farBy : Cond.selects yX11_farBy.cls yX11_farBy yX11_farBy ∈ lw_tbl := List.mem_of_getElem? (i := 91) (by decide +kernel)
theorem wc_X11_order : Cond.code mX11_order.1 mX11_order.2.1 mX11_order.2.2.1 mX11_order.2.2.2 ∈ lw_tbl := List.mem_of_getElem? (i := 1185) (by decide +kernel)
theorem wm_X11_order : Cond.instanceMethod yX11_order ∈ lw_tbl := List.mem_of_getElem? (i := 1183) (by decide +kernel)
theorem ws_X11_order : Cond.selects yX11_order.cls yX11_order yX11_order ∈ lw_tbl := List.mem_of_getElem? (i := 1184) (by decide +kernel)
theorem wc_X11_weightOf : Cond.code mX11_weightOf.1 mX11_weightOf.2.1 mX11_weightOf.2.2.1 mX11_weightOf.2.2.2 ∈ lw_tbl := List.mem_of_getElem? (i := 1205) (by decide +kernel)
theorem wm_X11_weightOf : Cond.instanceMethod yX11_weightOf ∈ lw_tbl := List.mem_of_getElem? (i := 1204) (by decide +kernel)
theorem ws_X11_weightOf : Cond.selects yX11_weightOf.cls yX11_weightOf yX11_weightOf ∈ lw_tbl := List.mem_of_getElem? (i := 93) (by decide +kernel)
theorem wc_X11_even : Cond.code mX11_even.1 mX11_even.2.1 mX11_even.2.2.1 mX11_even.2.2.2 ∈ lw_tbl := List.mem_of_getElem? (i := 1201) (by decide +kernel)
theorem wm_X11_even : Cond.instanceMethod yX11_even ∈ lw_tbl := List.mem_of_getElem? (i := 1199) (by decide +kernel)
theorem ws_X11_even : Cond.selects yX11_even.cls yX11_even yX11_even ∈ lw_tbl := List.mem_of_getElem? (i := 1200) (by decide +kernel)
theorem wc_X11_longestNow : Cond.code mX11_longestNow.1 mX11_longestNow.2.1 mX11_longestNow.2.2.1 mX11_longestNow.2.2.2 ∈ lw_tbl := List.mem_of_getElem? (i := 1213) (by decide +kernel)
theorem wm_X11_longestNow : Cond.instanceMethod yX11_longestNow ∈ lw_tbl := List.mem_of_getElem? (i := 1212) (by decide +kernel)
theorem ws_X11_longestNow : Cond.selects yX11_longestNow.cls yX11_longestNow yX11_longestNow ∈ lw_tbl := List.mem_of_getElem? (i := 94) (by decide +kernel)
theorem wc_X11_silence : Cond.code mX11_silence.1 mX11_silence.2.1 mX11_silence.2.2.1 mX11_silence.2.2.2 ∈ lw_tbl := List.mem_of_getElem? (i := 1209) (by decide +kernel)
theorem wm_X11_silence : Cond.instanceMethod yX11_silence ∈ lw_tbl := List.mem_of_getElem? (i := 1207) (by decide +kernel)
theorem ws_X11_silence : Cond.selects yX11_silence.cls yX11_silence yX11_silence ∈ lw_tbl := List.mem_of_getElem? (i := 1208) (by decide +kernel)
theorem wc_X11_bits : Cond.code mX11_bits.1 mX11_bits.2.1 mX11_bits.2.2.1 mX11_bits.2.2.2 ∈ lw_tbl := List.mem_of_getElem? (i := 1220) (by decide +kernel)
theorem wt_X11_bits : Cond.static yX11_bits ∈ lw_tbl := List.mem_of_getElem? (i := 1219) (by decide +kernel)
theorem wc_X11_pick : Cond.code mX11_pick.1 mX11_pick.2.1 mX11_pick.2.2.1 mX11_pick.2.2.2 ∈ lw_tbl := List.mem_of_getElem? (i := 1217) (by decide +kernel)
theorem wm_X11_pick : Cond.instanceMethod yX11_pick ∈ lw_tbl := List.mem_of_getElem? (i := 1215) (by decide +kernel)
theorem ws_X11_pick : Cond.selects yX11_pick.cls yX11_pick yX11_pick ∈ lw_tbl := List.mem_of_getElem? (i := 1216) (by decide +kernel)
theorem wc_X11_coughs : Cond.code mX11_coughs.1 mX11_coughs.2.1 mX11_coughs.2.2.1 mX11_coughs.2.2.2 ∈ lw_tbl := List.mem_of_getElem? (i := 1224) (by decide +kernel)
theorem wm_X11_coughs : Cond.instanceMethod yX11_coughs ∈ lw_tbl := List.mem_of_getElem? (i := 1222) (by decide +kernel)
theorem ws_X11_coughs : Cond.selects yX11_coughs.cls yX11_coughs yX11_coughs ∈ lw_tbl := List.mem_of_getElem? (i := 1223) (by decide +kernel)
theorem wc_X11_keepBack : Cond.code mX11_keepBack.1 mX11_keepBack.2.1 mX11_keepBack.2.2.1 mX11_keepBack.2.2.2 ∈ lw_tbl := List.mem_of_getElem? (i := 1230) (by decide +kernel)
theorem wm_X11_keepBack : Cond.instanceMethod yX11_keepBack ∈ lw_tbl := List.mem_of_getElem? (i := 1228) (by decide +kernel)
theorem ws_X11_keepBack : Cond.selects yX11_keepBack.cls yX11_keepBack yX11_keepBack ∈ lw_tbl := List.mem_of_getElem? (i := 1229) (by decide +kernel)
theorem wc_X11_mark : Cond.code mX11_mark.1 mX11_mark.2.1 mX11_mark.2.2.1 mX11_mark.2.2.2 ∈ lw_tbl := List.mem_of_getElem? (i := 1234) (by decide +kernel)
theorem wm_X11_mark : Cond.instanceMethod yX11_mark ∈ lw_tbl := List.mem_of_getElem? (i := 1232) (by decide +kernel)
theorem ws_X11_mark : Cond.selects yX11_mark.cls yX11_mark yX11_mark ∈ lw_tbl := List.mem_of_getElem? (i := 1233) (by decide +kernel)
theorem wc_X11_isLength : Cond.code mX11_isLength.1 mX11_isLength.2.1 mX11_isLength.2.2.1 mX11_isLength.2.2.2 ∈ lw_tbl := List.mem_of_getElem? (i := 1247) (by decide +kernel)
theorem wm_X11_isLength : Cond.instanceMethod yX11_isLength ∈ lw_tbl := List.mem_of_getElem? (i := 1246) (by decide +kernel)
theorem ws_X11_isLength : Cond.selects yX11_isLength.cls yX11_isLength yX11_isLength ∈ lw_tbl := List.mem_of_getElem? (i := 96) (by decide +kernel)
theorem wc_X11_could : Cond.code mX11_could.1 mX11_could.2.1 mX11_could.2.2.1 mX11_could.2.2.2 ∈ lw_tbl := List.mem_of_getElem? (i := 1243) (by decide +kernel)
theorem wm_X11_could : Cond.instanceMethod yX11_could ∈ lw_tbl := List.mem_of_getElem? (i := 1242) (by decide +kernel)
theorem ws_X11_could : Cond.selects yX11_could.cls yX11_could yX11_could ∈ lw_tbl := List.mem_of_getElem? (i := 95) (by decide +kernel)
theorem wc_X11_spoke : Cond.code mX11_spoke.1 mX11_spoke.2.1 mX11_spoke.2.2.1 mX11_spoke.2.2.2 ∈ lw_tbl := List.mem_of_getElem? (i := 1239) (by decide +kernel)
theorem wm_X11_spoke : Cond.instanceMethod yX11_spoke ∈ lw_tbl := List.mem_of_getElem? (i := 1237) (by decide +kernel)
theorem ws_X11_spoke : Cond.selects yX11_spoke.cls yX11_spoke yX11_spoke ∈ lw_tbl := List.mem_of_getElem? (i := 1238) (by decide +kernel)
theorem wc_X11_write : Cond.code mX11_write.1 mX11_write.2.1 mX11_write.2.2.1 mX11_write.2.2.2 ∈ lw_tbl := List.mem_of_getElem? (i := 1251) (by decide +kernel)
theorem wm_X11_write : Cond.instanceMethod yX11_write ∈ lw_tbl := List.mem_of_getElem? (i := 1249) (by decide +kernel)
theorem ws_X11_write : Cond.selects yX11_write.cls yX11_write yX11_write ∈ lw_tbl := List.mem_of_getElem? (i := 1250) (by decide +kernel)
theorem wc_X11_tear : Cond.code mX11_tear.1 mX11_tear.2.1 mX11_tear.2.2.1 mX11_tear.2.2.2 ∈ lw_tbl := List.mem_of_getElem? (i := 1258) (by decide +kernel)
theorem wm_X11_tear : Cond.instanceMethod yX11_tear ∈ lw_tbl := List.mem_of_getElem? (i := 1256) (by decide +kernel)
theorem ws_X11_tear : Cond.selects yX11_tear.cls yX11_tear yX11_tear ∈ lw_tbl := List.mem_of_getElem? (i := 1257) (by decide +kernel)
theorem wc_X11_judge : Cond.code mX11_judge.1 mX11_judge.2.1 mX11_judge.2.2.1 mX11_judge.2.2.2 ∈ lw_tbl := List.mem_of_getElem? (i := 1262) (by decide +kernel)
theorem wm_X11_judge : Cond.instanceMethod yX11_judge ∈ lw_tbl := List.mem_of_getElem? (i := 1260) (by decide +kernel)
theorem ws_X11_judge : Cond.selects yX11_judge.cls yX11_judge yX11_judge ∈ lw_tbl := List.mem_of_getElem? (i := 1261) (by decide +kernel)
theorem wc_X11_seed : Cond.code mX11_seed.1 mX11_seed.2.1 mX11_seed.2.2.1 mX11_seed.2.2.2 ∈ lw_tbl := List.mem_of_getElem? (i := 1266) (by decide +kernel)
theorem wm_X11_seed : Cond.instanceMethod yX11_seed ∈ lw_tbl := List.mem_of_getElem? (i := 1264) (by decide +kernel)
theorem ws_X11_seed : Cond.selects yX11_seed.cls yX11_seed yX11_seed ∈ lw_tbl := List.mem_of_getElem? (i := 1265) (by decide +kernel)
theorem wc_X11_keep : Cond.code mX11_keep.1 mX11_keep.2.1 mX11_keep.2.2.1 mX11_keep.2.2.2 ∈ lw_tbl := List.mem_of_getElem? (i := 1270) (by decide +kernel)
theorem wm_X11_keep : Cond.instanceMethod yX11_keep ∈ lw_tbl := List.mem_of_getElem? (i := 1268) (by decide +kernel)
theorem ws_X11_keep : Cond.selects yX11_keep.cls yX11_keep yX11_keep ∈ lw_tbl := List.mem_of_getElem? (i := 1269) (by decide +kernel)
theorem wc_X11_goBack : Cond.code mX11_goBack.1 mX11_goBack.2.1 mX11_goBack.2.2.1 mX11_goBack.2.2.2 ∈ lw_tbl := List.mem_of_getElem? (i := 1274) (by decide +kernel)
theorem wm_X11_goBack : Cond.instanceMethod yX11_goBack ∈ lw_tbl := List.mem_of_getElem? (i := 1272) (by decide +kernel)
theorem ws_X11_goBack : Cond.selects yX11_goBack.cls yX11_goBack yX11_goBack ∈ lw_tbl := List.mem_of_getElem? (i := 1273) (by decide +kernel)
theorem wc_J6_bitCount_0f7a4 : Cond.code mJ6_bitCount_0f7a4.1 mJ6_bitCount_0f7a4.2.1 mJ6_bitCount_0f7a4.2.2.1 mJ6_bitCount_0f7a4.2.2.2 ∈ lw_tbl := List.mem_of_getElem? (i := 735) (by decide +kernel)
theorem wt_J6_bitCount_0f7a4 : Cond.static yJ6_bitCount_0f7a4 ∈ lw_tbl := List.mem_of_getElem? (i := 734) (by decide +kernel)
theorem wc_J9_abs_0f7a4 : Cond.code mJ9_abs_0f7a4.1 mJ9_abs_0f7a4.2.1 mJ9_abs_0f7a4.2.2.1 mJ9_abs_0f7a4.2.2.2 ∈ lw_tbl := List.mem_of_getElem? (i := 761) (by decide +kernel)
theorem wt_J9_abs_0f7a4 : Cond.static yJ9_abs_0f7a4 ∈ lw_tbl := List.mem_of_getElem? (i := 760) (by decide +kernel)
theorem wc_J9_max_7cf53 : Cond.code mJ9_max_7cf53.1 mJ9_max_7cf53.2.1 mJ9_max_7cf53.2.2.1 mJ9_max_7cf53.2.2.2 ∈ lw_tbl := List.mem_of_getElem? (i := 623) (by decide +kernel)
theorem wt_J9_max_7cf53 : Cond.static yJ9_max_7cf53 ∈ lw_tbl := List.mem_of_getElem? (i := 622) (by decide +kernel)
theorem wc_J9_min_7cf53 : Cond.code mJ9_min_7cf53.1 mJ9_min_7cf53.2.1 mJ9_min_7cf53.2.2.1 mJ9_min_7cf53.2.2.2 ∈ lw_tbl := List.mem_of_getElem? (i := 626) (by decide +kernel)
theorem wt_J9_min_7cf53 : Cond.static yJ9_min_7cf53 ∈ lw_tbl := List.mem_of_getElem? (i := 625) (by decide +kernel)
theorem wc_J7_fill_53178 : Cond.code mJ7_fill_53178.1 mJ7_fill_53178.2.1 mJ7_fill_53178.2.2.1 mJ7_fill_53178.2.2.2 ∈ lw_tbl := List.mem_of_getElem? (i := 453) (by decide +kernel)
theorem wt_J7_fill_53178 : Cond.static yJ7_fill_53178 ∈ lw_tbl := List.mem_of_getElem? (i := 452) (by decide +kernel)
theorem fX10_10 : FL RX10 10 10 0 := ⟨(RX10, TX10, 14), rfl, by decide, Or.inl (List.mem_of_getElem? (i := 382) (by decide +kernel))⟩
theorem fX10_10F : Cond.fieldLink RX10 10 (TX10 0).1 (TX10 0).2.1 (TX10 0).2.2.1 ∈ lw_tbl := List.mem_of_getElem? (i := 382) (by decide +kernel)
theorem fX10_19 : FL RX10 19 10 1 := ⟨(RX10, TX10, 14), rfl, by decide, Or.inl (List.mem_of_getElem? (i := 383) (by decide +kernel))⟩
theorem fX10_19F : Cond.fieldLink RX10 19 (TX10 1).1 (TX10 1).2.1 (TX10 1).2.2.1 ∈ lw_tbl := List.mem_of_getElem? (i := 383) (by decide +kernel)
theorem fX10_26 : FL RX10 26 10 2 := ⟨(RX10, TX10, 14), rfl, by decide, Or.inl (List.mem_of_getElem? (i := 384) (by decide +kernel))⟩
theorem fX10_26F : Cond.fieldLink RX10 26 (TX10 2).1 (TX10 2).2.1 (TX10 2).2.2.1 ∈ lw_tbl := List.mem_of_getElem? (i := 384) (by decide +kernel)
theorem fX10_32 : FL RX10 32 10 3 := ⟨(RX10, TX10, 14), rfl, by decide, Or.inl (List.mem_of_getElem? (i := 385) (by decide +kernel))⟩
theorem fX10_32F : Cond.fieldLink RX10 32 (TX10 3).1 (TX10 3).2.1 (TX10 3).2.2.1 ∈ lw_tbl := List.mem_of_getElem? (i := 385) (by decide +kernel)
theorem fX10_39 : FL RX10 39 10 4 := ⟨(RX10, TX10, 14), rfl, by decide, Or.inl (List.mem_of_getElem? (i := 386) (by decide +kernel))⟩
theorem fX10_39F : Cond.fieldLink RX10 39 (TX10 4).1 (TX10 4).2.1 (TX10 4).2.2.1 ∈ lw_tbl := List.mem_of_getElem? (i := 386) (by decide +kernel)
theorem fX10_46 : FL RX10 46 10 5 := ⟨(RX10, TX10, 14), rfl, by decide, Or.inl (List.mem_of_getElem? (i := 387) (by decide +kernel))⟩
theorem fX10_46F : Cond.fieldLink RX10 46 (TX10 5).1 (TX10 5).2.1 (TX10 5).2.2.1 ∈ lw_tbl := List.mem_of_getElem? (i := 387) (by decide +kernel)
theorem fX10_50 : FL RX10 50 10 6 := ⟨(RX10, TX10, 14), rfl, by decide, Or.inl (List.mem_of_getElem? (i := 388) (by decide +kernel))⟩
theorem fX10_50F : Cond.fieldLink RX10 50 (TX10 6).1 (TX10 6).2.1 (TX10 6).2.2.1 ∈ lw_tbl := List.mem_of_getElem? (i := 388) (by decide +kernel)
theorem fX10_54 : FL RX10 54 10 7 := ⟨(RX10, TX10, 14), rfl, by decide, Or.inl (List.mem_of_getElem? (i := 389) (by decide +kernel))⟩
theorem fX10_54F : Cond.fieldLink RX10 54 (TX10 7).1 (TX10 7).2.1 (TX10 7).2.2.1 ∈ lw_tbl := List.mem_of_getElem? (i := 389) (by decide +kernel)
theorem fX10_57 : FL RX10 57 10 8 := ⟨(RX10, TX10, 14), rfl, by decide, Or.inl (List.mem_of_getElem? (i := 390) (by decide +kernel))⟩
theorem fX10_57F : Cond.fieldLink RX10 57 (TX10 8).1 (TX10 8).2.1 (TX10 8).2.2.1 ∈ lw_tbl := List.mem_of_getElem? (i := 390) (by decide +kernel)
theorem fX10_63 : FL RX10 63 10 9 := ⟨(RX10, TX10, 14), rfl, by decide, Or.inl (List.mem_of_getElem? (i := 391) (by decide +kernel))⟩
theorem fX10_63F : Cond.fieldLink RX10 63 (TX10 9).1 (TX10 9).2.1 (TX10 9).2.2.1 ∈ lw_tbl := List.mem_of_getElem? (i := 391) (by decide +kernel)
theorem fX10_70 : FL RX10 70 10 10 := ⟨(RX10, TX10, 14), rfl, by decide, Or.inl (List.mem_of_getElem? (i := 392) (by decide +kernel))⟩
theorem fX10_74 : FL RX10 74 10 11 := ⟨(RX10, TX10, 14), rfl, by decide, Or.inl (List.mem_of_getElem? (i := 393) (by decide +kernel))⟩
theorem fX10_79 : FL RX10 79 9 1 := ⟨(RX9, TX9, 6), rfl, by decide, Or.inr ⟨"RopeWords", List.mem_of_getElem? (i := 130) (by decide +kernel)⟩⟩
theorem fX10_92 : FL RX10 92 9 4 := ⟨(RX9, TX9, 6), rfl, by decide, Or.inr ⟨"RopeWords", List.mem_of_getElem? (i := 134) (by decide +kernel)⟩⟩
theorem fX10_95 : FL RX10 95 1 0 := ⟨(RX1, TX1, 2), rfl, by decide, Or.inr ⟨"RopeWords", List.mem_of_getElem? (i := 351) (by decide +kernel)⟩⟩
theorem fX10_104 : FL RX10 104 1 1 := ⟨(RX1, TX1, 2), rfl, by decide, Or.inr ⟨"RopeWords", List.mem_of_getElem? (i := 356) (by decide +kernel)⟩⟩
theorem fX10_112 : FL RX10 112 10 12 := ⟨(RX10, TX10, 14), rfl, by decide, Or.inl (List.mem_of_getElem? (i := 394) (by decide +kernel))⟩
theorem fX10_115 : FL RX10 115 10 13 := ⟨(RX10, TX10, 14), rfl, by decide, Or.inl (List.mem_of_getElem? (i := 395) (by decide +kernel))⟩
theorem fX10_121 : FL RX10 121 4 2 := ⟨(RX4, TX4, 3), rfl, by decide, Or.inr ⟨"RopeWords", List.mem_of_getElem? (i := 374) (by decide +kernel)⟩⟩
theorem fX10_125 : FL RX10 125 7 4 := ⟨(RX7, TX7, 5), rfl, by decide, Or.inr ⟨"RopeWords", List.mem_of_getElem? (i := 335) (by decide +kernel)⟩⟩
theorem fX10_130 : FL RX10 130 9 5 := ⟨(RX9, TX9, 6), rfl, by decide, Or.inr ⟨"RopeWords", List.mem_of_getElem? (i := 136) (by decide +kernel)⟩⟩
theorem fX10_133 : FL RX10 133 3 6 := ⟨(RX3, TX3, 11), rfl, by decide, Or.inr ⟨"RopeWords", List.mem_of_getElem? (i := 277) (by decide +kernel)⟩⟩
theorem fX10_136 : FL RX10 136 3 7 := ⟨(RX3, TX3, 11), rfl, by decide, Or.inr ⟨"RopeWords", List.mem_of_getElem? (i := 280) (by decide +kernel)⟩⟩
theorem fX10_139 : FL RX10 139 3 8 := ⟨(RX3, TX3, 11), rfl, by decide, Or.inr ⟨"RopeWords", List.mem_of_getElem? (i := 282) (by decide +kernel)⟩⟩
theorem fX10_142 : FL RX10 142 3 9 := ⟨(RX3, TX3, 11), rfl, by decide, Or.inr ⟨"RopeWords", List.mem_of_getElem? (i := 285) (by decide +kernel)⟩⟩
theorem fX10_145 : FL RX10 145 8 3 := ⟨(RX8, TX8, 5), rfl, by decide, Or.inr ⟨"RopeWords", List.mem_of_getElem? (i := 165) (by decide +kernel)⟩⟩
theorem fX10_148 : FL RX10 148 8 4 := ⟨(RX8, TX8, 5), rfl, by decide, Or.inr ⟨"RopeWords", List.mem_of_getElem? (i := 167) (by decide +kernel)⟩⟩
theorem fX10_151 : FL RX10 151 8 2 := ⟨(RX8, TX8, 5), rfl, by decide, Or.inr ⟨"RopeWords", List.mem_of_getElem? (i := 163) (by decide +kernel)⟩⟩
theorem fX10_154 : FL RX10 154 5 2 := ⟨(RX5, TX5, 3), rfl, by decide, Or.inr ⟨"RopeWords", List.mem_of_getElem? (i := 192) (by decide +kernel)⟩⟩
theorem fX10_156 : FL RX10 156 3 0 := ⟨(RX3, TX3, 11), rfl, by decide, Or.inr ⟨"RopeWords", List.mem_of_getElem? (i := 266) (by decide +kernel)⟩⟩
theorem fX10_159 : FL RX10 159 3 1 := ⟨(RX3, TX3, 11), rfl, by decide, Or.inr ⟨"RopeWords", List.mem_of_getElem? (i := 268) (by decide +kernel)⟩⟩
theorem fX10_162 : FL RX10 162 7 0 := ⟨(RX7, TX7, 5), rfl, by decide, Or.inr ⟨"RopeWords", List.mem_of_getElem? (i := 320) (by decide +kernel)⟩⟩
theorem fX10_165 : FL RX10 165 7 1 := ⟨(RX7, TX7, 5), rfl, by decide, Or.inr ⟨"RopeWords", List.mem_of_getElem? (i := 325) (by decide +kernel)⟩⟩
theorem fX10_168 : FL RX10 168 8 0 := ⟨(RX8, TX8, 5), rfl, by decide, Or.inr ⟨"RopeWords", List.mem_of_getElem? (i := 159) (by decide +kernel)⟩⟩
theorem fX10_169 : FL RX10 169 7 2 := ⟨(RX7, TX7, 5), rfl, by decide, Or.inr ⟨"RopeWords", List.mem_of_getElem? (i := 329) (by decide +kernel)⟩⟩
theorem fX10_172 : FL RX10 172 7 3 := ⟨(RX7, TX7, 5), rfl, by decide, Or.inr ⟨"RopeWords", List.mem_of_getElem? (i := 331) (by decide +kernel)⟩⟩
theorem fX10_179 : FL RX10 179 8 1 := ⟨(RX8, TX8, 5), rfl, by decide, Or.inr ⟨"RopeWords", List.mem_of_getElem? (i := 161) (by decide +kernel)⟩⟩
theorem fX10_218 : FL RX10 218 3 4 := ⟨(RX3, TX3, 11), rfl, by decide, Or.inr ⟨"RopeWords", List.mem_of_getElem? (i := 273) (by decide +kernel)⟩⟩
theorem fX10_221 : FL RX10 221 3 3 := ⟨(RX3, TX3, 11), rfl, by decide, Or.inr ⟨"RopeWords", List.mem_of_getElem? (i := 271) (by decide +kernel)⟩⟩
theorem fX10_273 : FL RX10 273 0 0 := ⟨(RX0, TX0, 1), rfl, by decide, Or.inr ⟨"RopeWords", List.mem_of_getElem? (i := 249) (by decide +kernel)⟩⟩
theorem fX10_276 : FL RX10 276 4 0 := ⟨(RX4, TX4, 3), rfl, by decide, Or.inr ⟨"RopeWords", List.mem_of_getElem? (i := 372) (by decide +kernel)⟩⟩
theorem fX10_282 : FL RX10 282 4 1 := ⟨(RX4, TX4, 3), rfl, by decide, Or.inr ⟨"RopeWords", List.mem_of_getElem? (i := 373) (by decide +kernel)⟩⟩
theorem fX0_7 : FL RX0 7 0 0 := ⟨(RX0, TX0, 1), rfl, by decide, Or.inl (List.mem_of_getElem? (i := 248) (by decide +kernel))⟩
theorem fX1_10 : FL RX1 10 1 0 := ⟨(RX1, TX1, 2), rfl, by decide, Or.inl (List.mem_of_getElem? (i := 349) (by decide +kernel))⟩
theorem fX1_10F : Cond.fieldLink RX1 10 (TX1 0).1 (TX1 0).2.1 (TX1 0).2.2.1 ∈ lw_tbl := List.mem_of_getElem? (i := 349) (by decide +kernel)
theorem fX1_19 : FL RX1 19 1 1 := ⟨(RX1, TX1, 2), rfl, by decide, Or.inl (List.mem_of_getElem? (i := 354) (by decide +kernel))⟩
theorem fX1_19F : Cond.fieldLink RX1 19 (TX1 1).1 (TX1 1).2.1 (TX1 1).2.2.1 ∈ lw_tbl := List.mem_of_getElem? (i := 354) (by decide +kernel)
theorem fX1_26 : FL RX1 26 7 4 := ⟨(RX7, TX7, 5), rfl, by decide, Or.inr ⟨"RopeWords", List.mem_of_getElem? (i := 333) (by decide +kernel)⟩⟩
theorem fX1_30 : FL RX1 30 7 2 := ⟨(RX7, TX7, 5), rfl, by decide, Or.inr ⟨"RopeWords", List.mem_of_getElem? (i := 327) (by decide +kernel)⟩⟩
theorem fX1_38 : FL RX1 38 7 1 := ⟨(RX7, TX7, 5), rfl, by decide, Or.inr ⟨"RopeWords", List.mem_of_getElem? (i := 324) (by decide +kernel)⟩⟩
theorem fX2_9 : FL RX2 9 2 0 := ⟨(RX2, TX2, 4), rfl, by decide, Or.inl (List.mem_of_getElem? (i := 208) (by decide +kernel))⟩
theorem fX2_9F : Cond.fieldLink RX2 9 (TX2 0).1 (TX2 0).2.1 (TX2 0).2.2.1 ∈ lw_tbl := List.mem_of_getElem? (i := 208) (by decide +kernel)
theorem fX2_13 : FL RX2 13 2 1 := ⟨(RX2, TX2, 4), rfl, by decide, Or.inl (List.mem_of_getElem? (i := 209) (by decide +kernel))⟩
theorem fX2_13F : Cond.fieldLink RX2 13 (TX2 1).1 (TX2 1).2.1 (TX2 1).2.2.1 ∈ lw_tbl := List.mem_of_getElem? (i := 209) (by decide +kernel)
theorem fX2_16 : FL RX2 16 2 2 := ⟨(RX2, TX2, 4), rfl, by decide, Or.inl (List.mem_of_getElem? (i := 210) (by decide +kernel))⟩
theorem fX2_16F : Cond.fieldLink RX2 16 (TX2 2).1 (TX2 2).2.1 (TX2 2).2.2.1 ∈ lw_tbl := List.mem_of_getElem? (i := 210) (by decide +kernel)
theorem fX2_19 : FL RX2 19 2 3 := ⟨(RX2, TX2, 4), rfl, by decide, Or.inl (List.mem_of_getElem? (i := 211) (by decide +kernel))⟩
theorem fX3_11 : FL RX3 11 3 0 := ⟨(RX3, TX3, 11), rfl, by decide, Or.inl (List.mem_of_getElem? (i := 265) (by decide +kernel))⟩
theorem fX3_11F : Cond.fieldLink RX3 11 (TX3 0).1 (TX3 0).2.1 (TX3 0).2.2.1 ∈ lw_tbl := List.mem_of_getElem? (i := 265) (by decide +kernel)
theorem fX3_15 : FL RX3 15 3 1 := ⟨(RX3, TX3, 11), rfl, by decide, Or.inl (List.mem_of_getElem? (i := 267) (by decide +kernel))⟩
theorem fX3_15F : Cond.fieldLink RX3 15 (TX3 1).1 (TX3 1).2.1 (TX3 1).2.2.1 ∈ lw_tbl := List.mem_of_getElem? (i := 267) (by decide +kernel)
theorem fX3_18 : FL RX3 18 3 2 := ⟨(RX3, TX3, 11), rfl, by decide, Or.inl (List.mem_of_getElem? (i := 269) (by decide +kernel))⟩
theorem fX3_18F : Cond.fieldLink RX3 18 (TX3 2).1 (TX3 2).2.1 (TX3 2).2.2.1 ∈ lw_tbl := List.mem_of_getElem? (i := 269) (by decide +kernel)
theorem fX3_21 : FL RX3 21 3 3 := ⟨(RX3, TX3, 11), rfl, by decide, Or.inl (List.mem_of_getElem? (i := 270) (by decide +kernel))⟩
theorem fX3_21F : Cond.fieldLink RX3 21 (TX3 3).1 (TX3 3).2.1 (TX3 3).2.2.1 ∈ lw_tbl := List.mem_of_getElem? (i := 270) (by decide +kernel)
theorem fX3_24 : FL RX3 24 3 4 := ⟨(RX3, TX3, 11), rfl, by decide, Or.inl (List.mem_of_getElem? (i := 272) (by decide +kernel))⟩
theorem fX3_24F : Cond.fieldLink RX3 24 (TX3 4).1 (TX3 4).2.1 (TX3 4).2.2.1 ∈ lw_tbl := List.mem_of_getElem? (i := 272) (by decide +kernel)
theorem fX3_27 : FL RX3 27 3 5 := ⟨(RX3, TX3, 11), rfl, by decide, Or.inl (List.mem_of_getElem? (i := 274) (by decide +kernel))⟩
theorem fX3_27F : Cond.fieldLink RX3 27 (TX3 5).1 (TX3 5).2.1 (TX3 5).2.2.1 ∈ lw_tbl := List.mem_of_getElem? (i := 274) (by decide +kernel)
theorem fX3_30 : FL RX3 30 3 6 := ⟨(RX3, TX3, 11), rfl, by decide, Or.inl (List.mem_of_getElem? (i := 275) (by decide +kernel))⟩
theorem fX3_34 : FL RX3 34 3 7 := ⟨(RX3, TX3, 11), rfl, by decide, Or.inl (List.mem_of_getElem? (i := 278) (by decide +kernel))⟩
theorem fX3_37 : FL RX3 37 3 8 := ⟨(RX3, TX3, 11), rfl, by decide, Or.inl (List.mem_of_getElem? (i := 281) (by decide +kernel))⟩
theorem fX3_40 : FL RX3 40 3 9 := ⟨(RX3, TX3, 11), rfl, by decide, Or.inl (List.mem_of_getElem? (i := 284) (by decide +kernel))⟩
theorem fX3_43 : FL RX3 43 3 10 := ⟨(RX3, TX3, 11), rfl, by decide, Or.inl (List.mem_of_getElem? (i := 287) (by decide +kernel))⟩
theorem fX4_10 : FL RX4 10 4 0 := ⟨(RX4, TX4, 3), rfl, by decide, Or.inl (List.mem_of_getElem? (i := 371) (by decide +kernel))⟩
theorem fX4_10F : Cond.fieldLink RX4 10 (TX4 0).1 (TX4 0).2.1 (TX4 0).2.2.1 ∈ lw_tbl := List.mem_of_getElem? (i := 371) (by decide +kernel)
theorem fX5_11 : FL RX5 11 5 0 := ⟨(RX5, TX5, 3), rfl, by decide, Or.inl (List.mem_of_getElem? (i := 189) (by decide +kernel))⟩
theorem fX5_11F : Cond.fieldLink RX5 11 (TX5 0).1 (TX5 0).2.1 (TX5 0).2.2.1 ∈ lw_tbl := List.mem_of_getElem? (i := 189) (by decide +kernel)
theorem fX5_16 : FL RX5 16 5 1 := ⟨(RX5, TX5, 3), rfl, by decide, Or.inl (List.mem_of_getElem? (i := 190) (by decide +kernel))⟩
theorem fX5_20 : FL RX5 20 5 2 := ⟨(RX5, TX5, 3), rfl, by decide, Or.inl (List.mem_of_getElem? (i := 191) (by decide +kernel))⟩
theorem fX6_11 : FL RX6 11 6 0 := ⟨(RX6, TX6, 4), rfl, by decide, Or.inl (List.mem_of_getElem? (i := 229) (by decide +kernel))⟩
theorem fX6_11F : Cond.fieldLink RX6 11 (TX6 0).1 (TX6 0).2.1 (TX6 0).2.2.1 ∈ lw_tbl := List.mem_of_getElem? (i := 229) (by decide +kernel)
theorem fX6_17 : FL RX6 17 6 1 := ⟨(RX6, TX6, 4), rfl, by decide, Or.inl (List.mem_of_getElem? (i := 230) (by decide +kernel))⟩
theorem fX6_17F : Cond.fieldLink RX6 17 (TX6 1).1 (TX6 1).2.1 (TX6 1).2.2.1 ∈ lw_tbl := List.mem_of_getElem? (i := 230) (by decide +kernel)
theorem fX6_20 : FL RX6 20 6 2 := ⟨(RX6, TX6, 4), rfl, by decide, Or.inl (List.mem_of_getElem? (i := 231) (by decide +kernel))⟩
theorem fX6_20F : Cond.fieldLink RX6 20 (TX6 2).1 (TX6 2).2.1 (TX6 2).2.2.1 ∈ lw_tbl := List.mem_of_getElem? (i := 231) (by decide +kernel)
theorem fX6_23 : FL RX6 23 6 3 := ⟨(RX6, TX6, 4), rfl, by decide, Or.inl (List.mem_of_getElem? (i := 232) (by decide +kernel))⟩
theorem fX6_27 : FL RX6 27 1 1 := ⟨(RX1, TX1, 2), rfl, by decide, Or.inr ⟨"RopeWords", List.mem_of_getElem? (i := 355) (by decide +kernel)⟩⟩
theorem fX6_33 : FL RX6 33 7 4 := ⟨(RX7, TX7, 5), rfl, by decide, Or.inr ⟨"RopeWords", List.mem_of_getElem? (i := 334) (by decide +kernel)⟩⟩
theorem fX6_36 : FL RX6 36 7 0 := ⟨(RX7, TX7, 5), rfl, by decide, Or.inr ⟨"RopeWords", List.mem_of_getElem? (i := 319) (by decide +kernel)⟩⟩
theorem fX6_39 : FL RX6 39 8 0 := ⟨(RX8, TX8, 5), rfl, by decide, Or.inr ⟨"RopeWords", List.mem_of_getElem? (i := 158) (by decide +kernel)⟩⟩
theorem fX6_52 : FL RX6 52 7 1 := ⟨(RX7, TX7, 5), rfl, by decide, Or.inr ⟨"RopeWords", List.mem_of_getElem? (i := 323) (by decide +kernel)⟩⟩
theorem fX6_59 : FL RX6 59 1 0 := ⟨(RX1, TX1, 2), rfl, by decide, Or.inr ⟨"RopeWords", List.mem_of_getElem? (i := 350) (by decide +kernel)⟩⟩
theorem fX6_71 : FL RX6 71 7 2 := ⟨(RX7, TX7, 5), rfl, by decide, Or.inr ⟨"RopeWords", List.mem_of_getElem? (i := 328) (by decide +kernel)⟩⟩
theorem fX7_9 : FL RX7 9 7 0 := ⟨(RX7, TX7, 5), rfl, by decide, Or.inl (List.mem_of_getElem? (i := 318) (by decide +kernel))⟩
theorem fX7_9F : Cond.fieldLink RX7 9 (TX7 0).1 (TX7 0).2.1 (TX7 0).2.2.1 ∈ lw_tbl := List.mem_of_getElem? (i := 318) (by decide +kernel)
theorem fX7_15 : FL RX7 15 7 1 := ⟨(RX7, TX7, 5), rfl, by decide, Or.inl (List.mem_of_getElem? (i := 321) (by decide +kernel))⟩
theorem fX7_15F : Cond.fieldLink RX7 15 (TX7 1).1 (TX7 1).2.1 (TX7 1).2.2.1 ∈ lw_tbl := List.mem_of_getElem? (i := 321) (by decide +kernel)
theorem fX7_18 : FL RX7 18 7 2 := ⟨(RX7, TX7, 5), rfl, by decide, Or.inl (List.mem_of_getElem? (i := 326) (by decide +kernel))⟩
theorem fX7_18F : Cond.fieldLink RX7 18 (TX7 2).1 (TX7 2).2.1 (TX7 2).2.2.1 ∈ lw_tbl := List.mem_of_getElem? (i := 326) (by decide +kernel)
theorem fX7_21 : FL RX7 21 7 3 := ⟨(RX7, TX7, 5), rfl, by decide, Or.inl (List.mem_of_getElem? (i := 330) (by decide +kernel))⟩
theorem fX7_21F : Cond.fieldLink RX7 21 (TX7 3).1 (TX7 3).2.1 (TX7 3).2.2.1 ∈ lw_tbl := List.mem_of_getElem? (i := 330) (by decide +kernel)
theorem fX7_24 : FL RX7 24 7 4 := ⟨(RX7, TX7, 5), rfl, by decide, Or.inl (List.mem_of_getElem? (i := 332) (by decide +kernel))⟩
theorem fX8_9 : FL RX8 9 8 0 := ⟨(RX8, TX8, 5), rfl, by decide, Or.inl (List.mem_of_getElem? (i := 157) (by decide +kernel))⟩
theorem fX8_9F : Cond.fieldLink RX8 9 (TX8 0).1 (TX8 0).2.1 (TX8 0).2.2.1 ∈ lw_tbl := List.mem_of_getElem? (i := 157) (by decide +kernel)
theorem fX8_15 : FL RX8 15 8 1 := ⟨(RX8, TX8, 5), rfl, by decide, Or.inl (List.mem_of_getElem? (i := 160) (by decide +kernel))⟩
theorem fX8_15F : Cond.fieldLink RX8 15 (TX8 1).1 (TX8 1).2.1 (TX8 1).2.2.1 ∈ lw_tbl := List.mem_of_getElem? (i := 160) (by decide +kernel)
theorem fX8_18 : FL RX8 18 7 1 := ⟨(RX7, TX7, 5), rfl, by decide, Or.inr ⟨"RopeWords", List.mem_of_getElem? (i := 322) (by decide +kernel)⟩⟩
theorem fX8_27 : FL RX8 27 8 2 := ⟨(RX8, TX8, 5), rfl, by decide, Or.inl (List.mem_of_getElem? (i := 162) (by decide +kernel))⟩
theorem fX8_31 : FL RX8 31 8 3 := ⟨(RX8, TX8, 5), rfl, by decide, Or.inl (List.mem_of_getElem? (i := 164) (by decide +kernel))⟩
theorem fX8_34 : FL RX8 34 8 4 := ⟨(RX8, TX8, 5), rfl, by decide, Or.inl (List.mem_of_getElem? (i := 166) (by decide +kernel))⟩
theorem fX8_37 : FL RX8 37 1 0 := ⟨(RX1, TX1, 2), rfl, by decide, Or.inr ⟨"RopeWords", List.mem_of_getElem? (i := 353) (by decide +kernel)⟩⟩
theorem fX8_62 : FL RX8 62 1 1 := ⟨(RX1, TX1, 2), rfl, by decide, Or.inr ⟨"RopeWords", List.mem_of_getElem? (i := 358) (by decide +kernel)⟩⟩
theorem fX8_74 : FL RX8 74 7 4 := ⟨(RX7, TX7, 5), rfl, by decide, Or.inr ⟨"RopeWords", List.mem_of_getElem? (i := 336) (by decide +kernel)⟩⟩
theorem fX9_9 : FL RX9 9 9 0 := ⟨(RX9, TX9, 6), rfl, by decide, Or.inl (List.mem_of_getElem? (i := 128) (by decide +kernel))⟩
theorem fX9_9F : Cond.fieldLink RX9 9 (TX9 0).1 (TX9 0).2.1 (TX9 0).2.2.1 ∈ lw_tbl := List.mem_of_getElem? (i := 128) (by decide +kernel)
theorem fX9_15 : FL RX9 15 9 4 := ⟨(RX9, TX9, 6), rfl, by decide, Or.inl (List.mem_of_getElem? (i := 133) (by decide +kernel))⟩
theorem fX9_19 : FL RX9 19 9 5 := ⟨(RX9, TX9, 6), rfl, by decide, Or.inl (List.mem_of_getElem? (i := 135) (by decide +kernel))⟩
theorem fX9_22 : FL RX9 22 9 1 := ⟨(RX9, TX9, 6), rfl, by decide, Or.inl (List.mem_of_getElem? (i := 129) (by decide +kernel))⟩
theorem fX9_25 : FL RX9 25 9 2 := ⟨(RX9, TX9, 6), rfl, by decide, Or.inl (List.mem_of_getElem? (i := 131) (by decide +kernel))⟩
theorem fX9_40 : FL RX9 40 1 0 := ⟨(RX1, TX1, 2), rfl, by decide, Or.inr ⟨"RopeWords", List.mem_of_getElem? (i := 352) (by decide +kernel)⟩⟩
theorem fX9_44 : FL RX9 44 3 6 := ⟨(RX3, TX3, 11), rfl, by decide, Or.inr ⟨"RopeWords", List.mem_of_getElem? (i := 276) (by decide +kernel)⟩⟩
theorem fX9_63 : FL RX9 63 1 1 := ⟨(RX1, TX1, 2), rfl, by decide, Or.inr ⟨"RopeWords", List.mem_of_getElem? (i := 357) (by decide +kernel)⟩⟩
theorem fX9_85 : FL RX9 85 3 7 := ⟨(RX3, TX3, 11), rfl, by decide, Or.inr ⟨"RopeWords", List.mem_of_getElem? (i := 279) (by decide +kernel)⟩⟩
theorem fX9_88 : FL RX9 88 3 8 := ⟨(RX3, TX3, 11), rfl, by decide, Or.inr ⟨"RopeWords", List.mem_of_getElem? (i := 283) (by decide +kernel)⟩⟩
theorem fX9_95 : FL RX9 95 3 9 := ⟨(RX3, TX3, 11), rfl, by decide, Or.inr ⟨"RopeWords", List.mem_of_getElem? (i := 286) (by decide +kernel)⟩⟩
theorem fX9_101 : FL RX9 101 7 4 := ⟨(RX7, TX7, 5), rfl, by decide, Or.inr ⟨"RopeWords", List.mem_of_getElem? (i := 337) (by decide +kernel)⟩⟩
theorem fX9_110 : FL RX9 110 3 10 := ⟨(RX3, TX3, 11), rfl, by decide, Or.inr ⟨"RopeWords", List.mem_of_getElem? (i := 288) (by decide +kernel)⟩⟩
theorem fX9_117 : FL RX9 117 9 3 := ⟨(RX9, TX9, 6), rfl, by decide, Or.inl (List.mem_of_getElem? (i := 132) (by decide +kernel))⟩
theorem fX11_7 : FL RX11 7 11 3 := ⟨(RX11, TX11, 44), rfl, by decide, Or.inl (List.mem_of_getElem? (i := 855) (by decide +kernel))⟩
theorem fX11_7F : Cond.fieldLink RX11 7 (TX11 3).1 (TX11 3).2.1 (TX11 3).2.2.1 ∈ lw_tbl := List.mem_of_getElem? (i := 855) (by decide +kernel)
theorem fX11_13 : FL RX11 13 11 5 := ⟨(RX11, TX11, 44), rfl, by decide, Or.inl (List.mem_of_getElem? (i := 857) (by decide +kernel))⟩
theorem fX11_13F : Cond.fieldLink RX11 13 (TX11 5).1 (TX11 5).2.1 (TX11 5).2.2.1 ∈ lw_tbl := List.mem_of_getElem? (i := 857) (by decide +kernel)
theorem fX11_16 : FL RX11 16 11 7 := ⟨(RX11, TX11, 44), rfl, by decide, Or.inl (List.mem_of_getElem? (i := 859) (by decide +kernel))⟩
theorem fX11_16F : Cond.fieldLink RX11 16 (TX11 7).1 (TX11 7).2.1 (TX11 7).2.2.1 ∈ lw_tbl := List.mem_of_getElem? (i := 859) (by decide +kernel)
theorem fX11_19 : FL RX11 19 11 8 := ⟨(RX11, TX11, 44), rfl, by decide, Or.inl (List.mem_of_getElem? (i := 860) (by decide +kernel))⟩
theorem fX11_19F : Cond.fieldLink RX11 19 (TX11 8).1 (TX11 8).2.1 (TX11 8).2.2.1 ∈ lw_tbl := List.mem_of_getElem? (i := 860) (by decide +kernel)
theorem fX11_22 : FL RX11 22 11 9 := ⟨(RX11, TX11, 44), rfl, by decide, Or.inl (List.mem_of_getElem? (i := 861) (by decide +kernel))⟩
theorem fX11_22F : Cond.fieldLink RX11 22 (TX11 9).1 (TX11 9).2.1 (TX11 9).2.2.1 ∈ lw_tbl := List.mem_of_getElem? (i := 861) (by decide +kernel)
theorem fX11_25 : FL RX11 25 11 10 := ⟨(RX11, TX11, 44), rfl, by decide, Or.inl (List.mem_of_getElem? (i := 862) (by decide +kernel))⟩
theorem fX11_25F : Cond.fieldLink RX11 25 (TX11 10).1 (TX11 10).2.1 (TX11 10).2.2.1 ∈ lw_tbl := List.mem_of_getElem? (i := 862) (by decide +kernel)
theorem fX11_28 : FL RX11 28 11 11 := ⟨(RX11, TX11, 44), rfl, by decide, Or.inl (List.mem_of_getElem? (i := 863) (by decide +kernel))⟩
theorem fX11_28F : Cond.fieldLink RX11 28 (TX11 11).1 (TX11 11).2.1 (TX11 11).2.2.1 ∈ lw_tbl := List.mem_of_getElem? (i := 863) (by decide +kernel)
theorem fX11_31 : FL RX11 31 11 12 := ⟨(RX11, TX11, 44), rfl, by decide, Or.inl (List.mem_of_getElem? (i := 864) (by decide +kernel))⟩
theorem fX11_31F : Cond.fieldLink RX11 31 (TX11 12).1 (TX11 12).2.1 (TX11 12).2.2.1 ∈ lw_tbl := List.mem_of_getElem? (i := 864) (by decide +kernel)
theorem fX11_34 : FL RX11 34 11 14 := ⟨(RX11, TX11, 44), rfl, by decide, Or.inl (List.mem_of_getElem? (i := 866) (by decide +kernel))⟩
theorem fX11_34F : Cond.fieldLink RX11 34 (TX11 14).1 (TX11 14).2.1 (TX11 14).2.2.1 ∈ lw_tbl := List.mem_of_getElem? (i := 866) (by decide +kernel)
theorem fX11_37 : FL RX11 37 11 16 := ⟨(RX11, TX11, 44), rfl, by decide, Or.inl (List.mem_of_getElem? (i := 868) (by decide +kernel))⟩
theorem fX11_41 : FL RX11 41 11 20 := ⟨(RX11, TX11, 44), rfl, by decide, Or.inl (List.mem_of_getElem? (i := 872) (by decide +kernel))⟩
theorem fX11_41F : Cond.fieldLink RX11 41 (TX11 20).1 (TX11 20).2.1 (TX11 20).2.2.1 ∈ lw_tbl := List.mem_of_getElem? (i := 872) (by decide +kernel)
theorem fX11_44 : FL RX11 44 11 22 := ⟨(RX11, TX11, 44), rfl, by decide, Or.inl (List.mem_of_getElem? (i := 874) (by decide +kernel))⟩
theorem fX11_44F : Cond.fieldLink RX11 44 (TX11 22).1 (TX11 22).2.1 (TX11 22).2.2.1 ∈ lw_tbl := List.mem_of_getElem? (i := 874) (by decide +kernel)
theorem fX11_47 : FL RX11 47 11 24 := ⟨(RX11, TX11, 44), rfl, by decide, Or.inl (List.mem_of_getElem? (i := 876) (by decide +kernel))⟩
theorem fX11_47F : Cond.fieldLink RX11 47 (TX11 24).1 (TX11 24).2.1 (TX11 24).2.2.1 ∈ lw_tbl := List.mem_of_getElem? (i := 876) (by decide +kernel)
theorem fX11_50 : FL RX11 50 11 26 := ⟨(RX11, TX11, 44), rfl, by decide, Or.inl (List.mem_of_getElem? (i := 878) (by decide +kernel))⟩
theorem fX11_50F : Cond.fieldLink RX11 50 (TX11 26).1 (TX11 26).2.1 (TX11 26).2.2.1 ∈ lw_tbl := List.mem_of_getElem? (i := 878) (by decide +kernel)
theorem fX11_53 : FL RX11 53 11 27 := ⟨(RX11, TX11, 44), rfl, by decide, Or.inl (List.mem_of_getElem? (i := 879) (by decide +kernel))⟩
theorem fX11_53F : Cond.fieldLink RX11 53 (TX11 27).1 (TX11 27).2.1 (TX11 27).2.2.1 ∈ lw_tbl := List.mem_of_getElem? (i := 879) (by decide +kernel)
theorem fX11_56 : FL RX11 56 11 28 := ⟨(RX11, TX11, 44), rfl, by decide, Or.inl (List.mem_of_getElem? (i := 880) (by decide +kernel))⟩
theorem fX11_56F : Cond.fieldLink RX11 56 (TX11 28).1 (TX11 28).2.1 (TX11 28).2.2.1 ∈ lw_tbl := List.mem_of_getElem? (i := 880) (by decide +kernel)
theorem fX11_59 : FL RX11 59 11 29 := ⟨(RX11, TX11, 44), rfl, by decide, Or.inl (List.mem_of_getElem? (i := 881) (by decide +kernel))⟩
theorem fX11_59F : Cond.fieldLink RX11 59 (TX11 29).1 (TX11 29).2.1 (TX11 29).2.2.1 ∈ lw_tbl := List.mem_of_getElem? (i := 881) (by decide +kernel)
theorem fX11_62 : FL RX11 62 11 31 := ⟨(RX11, TX11, 44), rfl, by decide, Or.inl (List.mem_of_getElem? (i := 883) (by decide +kernel))⟩
theorem fX11_62F : Cond.fieldLink RX11 62 (TX11 31).1 (TX11 31).2.1 (TX11 31).2.2.1 ∈ lw_tbl := List.mem_of_getElem? (i := 883) (by decide +kernel)
theorem fX11_65 : FL RX11 65 11 32 := ⟨(RX11, TX11, 44), rfl, by decide, Or.inl (List.mem_of_getElem? (i := 884) (by decide +kernel))⟩
theorem fX11_65F : Cond.fieldLink RX11 65 (TX11 32).1 (TX11 32).2.1 (TX11 32).2.2.1 ∈ lw_tbl := List.mem_of_getElem? (i := 884) (by decide +kernel)
theorem fX11_68 : FL RX11 68 11 33 := ⟨(RX11, TX11, 44), rfl, by decide, Or.inl (List.mem_of_getElem? (i := 885) (by decide +kernel))⟩
theorem fX11_68F : Cond.fieldLink RX11 68 (TX11 33).1 (TX11 33).2.1 (TX11 33).2.2.1 ∈ lw_tbl := List.mem_of_getElem? (i := 885) (by decide +kernel)
theorem fX11_71 : FL RX11 71 11 35 := ⟨(RX11, TX11, 44), rfl, by decide, Or.inl (List.mem_of_getElem? (i := 887) (by decide +kernel))⟩
theorem fX11_71F : Cond.fieldLink RX11 71 (TX11 35).1 (TX11 35).2.1 (TX11 35).2.2.1 ∈ lw_tbl := List.mem_of_getElem? (i := 887) (by decide +kernel)
theorem fX11_74 : FL RX11 74 11 36 := ⟨(RX11, TX11, 44), rfl, by decide, Or.inl (List.mem_of_getElem? (i := 888) (by decide +kernel))⟩
theorem fX11_74F : Cond.fieldLink RX11 74 (TX11 36).1 (TX11 36).2.1 (TX11 36).2.2.1 ∈ lw_tbl := List.mem_of_getElem? (i := 888) (by decide +kernel)
theorem fX11_77 : FL RX11 77 11 38 := ⟨(RX11, TX11, 44), rfl, by decide, Or.inl (List.mem_of_getElem? (i := 890) (by decide +kernel))⟩
theorem fX11_77F : Cond.fieldLink RX11 77 (TX11 38).1 (TX11 38).2.1 (TX11 38).2.2.1 ∈ lw_tbl := List.mem_of_getElem? (i := 890) (by decide +kernel)
theorem fX11_80 : FL RX11 80 11 40 := ⟨(RX11, TX11, 44), rfl, by decide, Or.inl (List.mem_of_getElem? (i := 892) (by decide +kernel))⟩
theorem fX11_80F : Cond.fieldLink RX11 80 (TX11 40).1 (TX11 40).2.1 (TX11 40).2.2.1 ∈ lw_tbl := List.mem_of_getElem? (i := 892) (by decide +kernel)
theorem fX11_83 : FL RX11 83 11 41 := ⟨(RX11, TX11, 44), rfl, by decide, Or.inl (List.mem_of_getElem? (i := 893) (by decide +kernel))⟩
theorem fX11_83F : Cond.fieldLink RX11 83 (TX11 41).1 (TX11 41).2.1 (TX11 41).2.2.1 ∈ lw_tbl := List.mem_of_getElem? (i := 893) (by decide +kernel)
theorem fX11_86 : FL RX11 86 11 42 := ⟨(RX11, TX11, 44), rfl, by decide, Or.inl (List.mem_of_getElem? (i := 894) (by decide +kernel))⟩
theorem fX11_86F : Cond.fieldLink RX11 86 (TX11 42).1 (TX11 42).2.1 (TX11 42).2.2.1 ∈ lw_tbl := List.mem_of_getElem? (i := 894) (by decide +kernel)
theorem fX11_89 : FL RX11 89 11 43 := ⟨(RX11, TX11, 44), rfl, by decide, Or.inl (List.mem_of_getElem? (i := 895) (by decide +kernel))⟩
theorem fX11_89F : Cond.fieldLink RX11 89 (TX11 43).1 (TX11 43).2.1 (TX11 43).2.2.1 ∈ lw_tbl := List.mem_of_getElem? (i := 895) (by decide +kernel)
theorem fX11_93 : FL RX11 93 11 6 := ⟨(RX11, TX11, 44), rfl, by decide, Or.inl (List.mem_of_getElem? (i := 858) (by decide +kernel))⟩
theorem fX11_107 : FL RX11 107 11 15 := ⟨(RX11, TX11, 44), rfl, by decide, Or.inl (List.mem_of_getElem? (i := 867) (by decide +kernel))⟩
theorem fX11_111 : FL RX11 111 11 17 := ⟨(RX11, TX11, 44), rfl, by decide, Or.inl (List.mem_of_getElem? (i := 869) (by decide +kernel))⟩
theorem fX11_126 : FL RX11 126 11 19 := ⟨(RX11, TX11, 44), rfl, by decide, Or.inl (List.mem_of_getElem? (i := 871) (by decide +kernel))⟩
theorem fX11_129 : FL RX11 129 11 18 := ⟨(RX11, TX11, 44), rfl, by decide, Or.inl (List.mem_of_getElem? (i := 870) (by decide +kernel))⟩
theorem fX11_139 : FL RX11 139 11 21 := ⟨(RX11, TX11, 44), rfl, by decide, Or.inl (List.mem_of_getElem? (i := 873) (by decide +kernel))⟩
theorem fX11_142 : FL RX11 142 11 23 := ⟨(RX11, TX11, 44), rfl, by decide, Or.inl (List.mem_of_getElem? (i := 875) (by decide +kernel))⟩
theorem fX11_145 : FL RX11 145 11 25 := ⟨(RX11, TX11, 44), rfl, by decide, Or.inl (List.mem_of_getElem? (i := 877) (by decide +kernel))⟩
theorem fX11_148 : FL RX11 148 11 30 := ⟨(RX11, TX11, 44), rfl, by decide, Or.inl (List.mem_of_getElem? (i := 882) (by decide +kernel))⟩
theorem fX11_170 : FL RX11 170 11 0 := ⟨(RX11, TX11, 44), rfl, by decide, Or.inl (List.mem_of_getElem? (i := 852) (by decide +kernel))⟩
theorem fX11_173 : FL RX11 173 11 1 := ⟨(RX11, TX11, 44), rfl, by decide, Or.inl (List.mem_of_getElem? (i := 853) (by decide +kernel))⟩
theorem fX11_176 : FL RX11 176 11 2 := ⟨(RX11, TX11, 44), rfl, by decide, Or.inl (List.mem_of_getElem? (i := 854) (by decide +kernel))⟩
theorem fX11_179 : FL RX11 179 11 4 := ⟨(RX11, TX11, 44), rfl, by decide, Or.inl (List.mem_of_getElem? (i := 856) (by decide +kernel))⟩
theorem fX11_191 : FL RX11 191 11 37 := ⟨(RX11, TX11, 44), rfl, by decide, Or.inl (List.mem_of_getElem? (i := 889) (by decide +kernel))⟩
theorem fX11_194 : FL RX11 194 11 39 := ⟨(RX11, TX11, 44), rfl, by decide, Or.inl (List.mem_of_getElem? (i := 891) (by decide +kernel))⟩
theorem fX11_197 : FL RX11 197 11 34 := ⟨(RX11, TX11, 44), rfl, by decide, Or.inl (List.mem_of_getElem? (i := 886) (by decide +kernel))⟩
theorem fX11_245 : FL RX11 245 11 13 := ⟨(RX11, TX11, 44), rfl, by decide, Or.inl (List.mem_of_getElem? (i := 865) (by decide +kernel))⟩
theorem kX10_1 : Cond.methodLink RX10 1 Lib.objectInit ∈ lw_tbl := List.mem_of_getElem? (i := 119) (by decide +kernel)
theorem kX10_9 : CI RX10 9 mX9_init 0 := ⟨⟨Or.inr ⟨"RopeWords", List.mem_of_getElem? (i := 124) (by decide +kernel)⟩, wc_X9_init, wi_X9, by decide +kernel, by decide +kernel, by decide⟩, wm_X9_init, rfl, rfl⟩
theorem kX10_18 : CI RX10 18 mX8_init 0 := ⟨⟨Or.inr ⟨"RopeWords", List.mem_of_getElem? (i := 153) (by decide +kernel)⟩, wc_X8_init, wi_X8, by decide +kernel, by decide +kernel, by decide⟩, wm_X8_init, rfl, rfl⟩
theorem kX10_25 : CI RX10 25 mX5_init 0 := ⟨⟨Or.inr ⟨"RopeWords", List.mem_of_getElem? (i := 182) (by decide +kernel)⟩, wc_X5_init, wi_X5, by decide +kernel, by decide +kernel, by decide⟩, wm_X5_init, rfl, rfl⟩
theorem kX10_38 : CI RX10 38 mX2_init 0 := ⟨⟨Or.inr ⟨"RopeWords", List.mem_of_getElem? (i := 204) (by decide +kernel)⟩, wc_X2_init, wi_X2, by decide +kernel, by decide +kernel, by decide⟩, wm_X2_init, rfl, rfl⟩
theorem kX10_45 : CI RX10 45 mX6_init 0 := ⟨⟨Or.inr ⟨"RopeWords", List.mem_of_getElem? (i := 223) (by decide +kernel)⟩, wc_X6_init, wi_X6, by decide +kernel, by decide +kernel, by decide⟩, wm_X6_init, rfl, rfl⟩
theorem kX10_62 : CI RX10 62 mX0_init 0 := ⟨⟨Or.inr ⟨"RopeWords", List.mem_of_getElem? (i := 244) (by decide +kernel)⟩, wc_X0_init, wi_X0, by decide +kernel, by decide +kernel, by decide⟩, wm_X0_init, rfl, rfl⟩
theorem kX10_69 : CI RX10 69 mX1_init 0 := ⟨⟨Or.inr ⟨"RopeWords", List.mem_of_getElem? (i := 255) (by decide +kernel)⟩, wc_X1_init, wi_X1, by decide +kernel, by decide +kernel, by decide⟩, wm_X1_init, rfl, rfl⟩
theorem kX10_77 : CI RX10 77 mX4_init 0 := ⟨⟨Or.inr ⟨"RopeWords", List.mem_of_getElem? (i := 365) (by decide +kernel)⟩, wc_X4_init, wi_X4, by decide +kernel, by decide +kernel, by decide⟩, wm_X4_init, rfl, rfl⟩
theorem kX10_84 : CV RX10 84 mX9_add 1 9 := ⟨⟨Or.inr ⟨"RopeWords", List.mem_of_getElem? (i := 431) (by decide +kernel)⟩, wc_X9_add, wi_X9, by decide +kernel, by decide +kernel, by decide⟩, wm_X9_add, ws_X9_add, rfl⟩
theorem kX10_88 : CV RX10 88 mX9_readInto 1 9 := ⟨⟨Or.inr ⟨"RopeWords", List.mem_of_getElem? (i := 439) (by decide +kernel)⟩, wc_X9_readInto, wi_X9, by decide +kernel, by decide +kernel, by decide⟩, wm_X9_readInto, ws_X9_readInto, rfl⟩
theorem kX10_99 : CV RX10 99 mX3_countWords 0 3 := ⟨⟨Or.inr ⟨"RopeWords", List.mem_of_getElem? (i := 518) (by decide +kernel)⟩, wc_X3_countWords, wi_X3, by decide +kernel, by decide +kernel, by decide⟩, wm_X3_countWords, ws_X3_countWords, rfl⟩
theorem kX10_108 : CV RX10 108 mX8_begin 1 8 := ⟨⟨Or.inr ⟨"RopeWords", List.mem_of_getElem? (i := 530) (by decide +kernel)⟩, wc_X8_begin, wi_X8, by decide +kernel, by decide +kernel, by decide⟩, wm_X8_begin, ws_X8_begin, rfl⟩
theorem kX10_118 : CV RX10 118 mX5_forget 0 5 := ⟨⟨Or.inr ⟨"RopeWords", List.mem_of_getElem? (i := 537) (by decide +kernel)⟩, wc_X5_forget, wi_X5, by decide +kernel, by decide +kernel, by decide⟩, wm_X5_forget, ws_X5_forget, rfl⟩
theorem kX10_175 : CV RX10 175 mX3_lengthOf 1 3 := ⟨⟨Or.inr ⟨"RopeWords", List.mem_of_getElem? (i := 566) (by decide +kernel)⟩, wc_X3_lengthOf, wi_X3, by decide +kernel, by decide +kernel, by decide⟩, wm_X3_lengthOf, ws_X3_lengthOf, rfl⟩
theorem kX10_182 : CV RX10 182 mX10_areOpponents 2 10 := ⟨⟨Or.inl (List.mem_of_getElem? (i := 578) (by decide +kernel)), wc_X10_areOpponents, wi_X10, by decide +kernel, by decide +kernel, by decide⟩, wm_X10_areOpponents, ws_X10_areOpponents, rfl⟩
theorem kX10_186 : CV RX10 186 mX10_maySay 2 10 := ⟨⟨Or.inl (List.mem_of_getElem? (i := 586) (by decide +kernel)), wc_X10_maySay, wi_X10, by decide +kernel, by decide +kernel, by decide⟩, wm_X10_maySay, ws_X10_maySay, rfl⟩
theorem kX10_191 : CV RX10 191 mX5_push 1 5 := ⟨⟨Or.inr ⟨"RopeWords", List.mem_of_getElem? (i := 596) (by decide +kernel)⟩, wc_X5_push, wi_X5, by decide +kernel, by decide +kernel, by decide⟩, wm_X5_push, ws_X5_push, rfl⟩
theorem kX10_195 : CV RX10 195 mX8_play 5 8 := ⟨⟨Or.inr ⟨"RopeWords", List.mem_of_getElem? (i := 604) (by decide +kernel)⟩, wc_X8_play, wi_X8, by decide +kernel, by decide +kernel, by decide⟩, wm_X8_play, ws_X8_play, rfl⟩
theorem kX10_199 : CV RX10 199 mX7_countOf 1 7 := ⟨⟨Or.inr ⟨"RopeWords", List.mem_of_getElem? (i := 640) (by decide +kernel)⟩, wc_X7_countOf, wi_X7, by decide +kernel, by decide +kernel, by decide⟩, wm_X7_countOf, ws_X7_countOf, rfl⟩
theorem kX10_202 : CV RX10 202 mX0_next 1 0 := ⟨⟨Or.inr ⟨"RopeWords", List.mem_of_getElem? (i := 644) (by decide +kernel)⟩, wc_X0_next, wi_X0, by decide +kernel, by decide +kernel, by decide⟩, wm_X0_next, ws_X0_next, rfl⟩
theorem kX10_205 : CV RX10 205 mX7_nthOf 2 7 := ⟨⟨Or.inr ⟨"RopeWords", List.mem_of_getElem? (i := 652) (by decide +kernel)⟩, wc_X7_nthOf, wi_X7, by decide +kernel, by decide +kernel, by decide⟩, wm_X7_nthOf, ws_X7_nthOf, rfl⟩
theorem kX10_209 : CV RX10 209 mX10_drawnWord 2 10 := ⟨⟨Or.inl (List.mem_of_getElem? (i := 656) (by decide +kernel)), wc_X10_drawnWord, wi_X10, by decide +kernel, by decide +kernel, by decide⟩, wm_X10_drawnWord, ws_X10_drawnWord, rfl⟩
theorem kX10_212 : CV RX10 212 mX5_popInto 1 5 := ⟨⟨Or.inr ⟨"RopeWords", List.mem_of_getElem? (i := 669) (by decide +kernel)⟩, wc_X5_popInto, wi_X5, by decide +kernel, by decide +kernel, by decide⟩, wm_X5_popInto, ws_X5_popInto, rfl⟩
theorem kX10_215 : CV RX10 215 mX3_longestWithin 1 3 := ⟨⟨Or.inr ⟨"RopeWords", List.mem_of_getElem? (i := 660) (by decide +kernel)⟩, wc_X3_longestWithin, wi_X3, by decide +kernel, by decide +kernel, by decide⟩, wm_X3_longestWithin, ws_X3_longestWithin, rfl⟩
theorem kX10_224 : CV RX10 224 mX2_fillTo 1 2 := ⟨⟨Or.inr ⟨"RopeWords", List.mem_of_getElem? (i := 685) (by decide +kernel)⟩, wc_X2_fillTo, wi_X2, by decide +kernel, by decide +kernel, by decide⟩, wm_X2_fillTo, ws_X2_fillTo, rfl⟩
theorem kX10_227 : CV RX10 227 mX2_worth 2 2 := ⟨⟨Or.inr ⟨"RopeWords", List.mem_of_getElem? (i := 705) (by decide +kernel)⟩, wc_X2_worth, wi_X2, by decide +kernel, by decide +kernel, by decide⟩, wm_X2_worth, ws_X2_worth, rfl⟩
theorem kX10_230 : CS RX10 230 mX10_isSide 1 := ⟨⟨Or.inl (List.mem_of_getElem? (i := 710) (by decide +kernel)), wc_X10_isSide, wi_X10, by decide +kernel, by decide +kernel, by decide⟩, wt_X10_isSide⟩
theorem kX10_234 : CV RX10 234 mX6_plan 4 6 := ⟨⟨Or.inr ⟨"RopeWords", List.mem_of_getElem? (i := 713) (by decide +kernel)⟩, wc_X6_plan, wi_X6, by decide +kernel, by decide +kernel, by decide⟩, wm_X6_plan, ws_X6_plan, rfl⟩
theorem kX10_238 : CV RX10 238 mX6_farthest 0 6 := ⟨⟨Or.inr ⟨"RopeWords", List.mem_of_getElem? (i := 739) (by decide +kernel)⟩, wc_X6_farthest, wi_X6, by decide +kernel, by decide +kernel, by decide⟩, wm_X6_farthest, ws_X6_farthest, rfl⟩
theorem kX10_242 : CV RX10 242 mX6_nth 1 6 := ⟨⟨Or.inr ⟨"RopeWords", List.mem_of_getElem? (i := 743) (by decide +kernel)⟩, wc_X6_nth, wi_X6, by decide +kernel, by decide +kernel, by decide⟩, wm_X6_nth, ws_X6_nth, rfl⟩
theorem kX10_245 : CV RX10 245 mX7_weightOfSide 1 7 := ⟨⟨Or.inr ⟨"RopeWords", List.mem_of_getElem? (i := 755) (by decide +kernel)⟩, wc_X7_weightOfSide, wi_X7, by decide +kernel, by decide +kernel, by decide⟩, wm_X7_weightOfSide, ws_X7_weightOfSide, rfl⟩
theorem kX10_248 : CS RX10 248 mJ9_abs_0f7a4 1 := ⟨⟨Or.inl (List.mem_of_getElem? (i := 759) (by decide +kernel)), wc_J9_abs_0f7a4, wi_J9, by decide +kernel, by decide +kernel, by decide⟩, wt_J9_abs_0f7a4⟩
theorem kX10_253 : CV RX10 253 mX10_gainOf 4 10 := ⟨⟨Or.inl (List.mem_of_getElem? (i := 766) (by decide +kernel)), wc_X10_gainOf, wi_X10, by decide +kernel, by decide +kernel, by decide⟩, wm_X10_gainOf, ws_X10_gainOf, rfl⟩
theorem kX10_257 : CV RX10 257 mX7_fairestHalf 0 7 := ⟨⟨Or.inr ⟨"RopeWords", List.mem_of_getElem? (i := 775) (by decide +kernel)⟩, wc_X7_fairestHalf, wi_X7, by decide +kernel, by decide +kernel, by decide⟩, wm_X7_fairestHalf, ws_X7_fairestHalf, rfl⟩
theorem kX10_260 : CV RX10 260 mX7_differenceBy 1 7 := ⟨⟨Or.inr ⟨"RopeWords", List.mem_of_getElem? (i := 785) (by decide +kernel)⟩, wc_X7_differenceBy, wi_X7, by decide +kernel, by decide +kernel, by decide⟩, wm_X7_differenceBy, ws_X7_differenceBy, rfl⟩
theorem kX10_263 : CV RX10 263 mX7_oddsOfNoCough 1 7 := ⟨⟨Or.inr ⟨"RopeWords", List.mem_of_getElem? (i := 790) (by decide +kernel)⟩, wc_X7_oddsOfNoCough, wi_X7, by decide +kernel, by decide +kernel, by decide⟩, wm_X7_oddsOfNoCough, ws_X7_oddsOfNoCough, rfl⟩
theorem kX10_266 : CV RX10 266 mX7_leastWorth 1 7 := ⟨⟨Or.inr ⟨"RopeWords", List.mem_of_getElem? (i := 800) (by decide +kernel)⟩, wc_X7_leastWorth, wi_X7, by decide +kernel, by decide +kernel, by decide⟩, wm_X7_leastWorth, ws_X7_leastWorth, rfl⟩
theorem kX10_269 : CV RX10 269 mX1_couldMove 3 1 := ⟨⟨Or.inr ⟨"RopeWords", List.mem_of_getElem? (i := 812) (by decide +kernel)⟩, wc_X1_couldMove, wi_X1, by decide +kernel, by decide +kernel, by decide⟩, wm_X1_couldMove, ws_X1_couldMove, rfl⟩
theorem kX10_279 : CV RX10 279 mX8_copyFrom 1 8 := ⟨⟨Or.inr ⟨"RopeWords", List.mem_of_getElem? (i := 841) (by decide +kernel)⟩, wc_X8_copyFrom, wi_X8, by decide +kernel, by decide +kernel, by decide⟩, wm_X8_copyFrom, ws_X8_copyFrom, rfl⟩
theorem kX10_285 : CV RX10 285 mX7_isOf 2 7 := ⟨⟨Or.inr ⟨"RopeWords", List.mem_of_getElem? (i := 582) (by decide +kernel)⟩, wc_X7_isOf, wi_X7, by decide +kernel, by decide +kernel, by decide⟩, wm_X7_isOf, ws_X7_isOf, rfl⟩
theorem kX10_288 : CV RX10 288 mX8_wasSaid 1 8 := ⟨⟨Or.inr ⟨"RopeWords", List.mem_of_getElem? (i := 590) (by decide +kernel)⟩, wc_X8_wasSaid, wi_X8, by decide +kernel, by decide +kernel, by decide⟩, wm_X8_wasSaid, ws_X8_wasSaid, rfl⟩
theorem kX10_291 : CV RX10 291 mX1_wayOf 4 1 := ⟨⟨Or.inr ⟨"RopeWords", List.mem_of_getElem? (i := 770) (by decide +kernel)⟩, wc_X1_wayOf, wi_X1, by decide +kernel, by decide +kernel, by decide⟩, wm_X1_wayOf, ws_X1_wayOf, rfl⟩
theorem kX0_1 : Cond.methodLink RX0 1 Lib.objectInit ∈ lw_tbl := List.mem_of_getElem? (i := 247) (by decide +kernel)
theorem kX1_1 : Cond.methodLink RX1 1 Lib.objectInit ∈ lw_tbl := List.mem_of_getElem? (i := 258) (by decide +kernel)
theorem kX1_9 : CI RX1 9 mX3_init 0 := ⟨⟨Or.inr ⟨"RopeWords", List.mem_of_getElem? (i := 261) (by decide +kernel)⟩, wc_X3_init, wi_X3, by decide +kernel, by decide +kernel, by decide⟩, wm_X3_init, rfl, rfl⟩
theorem kX1_18 : CI RX1 18 mX7_init 0 := ⟨⟨Or.inr ⟨"RopeWords", List.mem_of_getElem? (i := 314) (by decide +kernel)⟩, wc_X7_init, wi_X7, by decide +kernel, by decide +kernel, by decide⟩, wm_X7_init, rfl, rfl⟩
theorem kX1_23 : CV RX1 23 mX3_clear 0 3 := ⟨⟨Or.inr ⟨"RopeWords", List.mem_of_getElem? (i := 447) (by decide +kernel)⟩, wc_X3_clear, wi_X3, by decide +kernel, by decide +kernel, by decide⟩, wm_X3_clear, ws_X3_clear, rfl⟩
theorem kX1_34 : CV RX1 34 mX3_pullOf 2 3 := ⟨⟨Or.inr ⟨"RopeWords", List.mem_of_getElem? (i := 617) (by decide +kernel)⟩, wc_X3_pullOf, wi_X3, by decide +kernel, by decide +kernel, by decide⟩, wm_X3_pullOf, ws_X3_pullOf, rfl⟩
theorem kX1_41 : CV RX1 41 mX3_lengthsWithin 1 3 := ⟨⟨Or.inr ⟨"RopeWords", List.mem_of_getElem? (i := 816) (by decide +kernel)⟩, wc_X3_lengthsWithin, wi_X3, by decide +kernel, by decide +kernel, by decide⟩, wm_X3_lengthsWithin, ws_X3_lengthsWithin, rfl⟩
theorem kX1_45 : CS RX1 45 mJ9_abs_0f7a4 1 := ⟨⟨Or.inl (List.mem_of_getElem? (i := 820) (by decide +kernel)), wc_J9_abs_0f7a4, wi_J9, by decide +kernel, by decide +kernel, by decide⟩, wt_J9_abs_0f7a4⟩
theorem kX2_3 : Cond.methodLink RX2 3 Lib.objectInit ∈ lw_tbl := List.mem_of_getElem? (i := 207) (by decide +kernel)
theorem kX2_23 : CV RX2 23 mX2_fill 1 2 := ⟨⟨Or.inl (List.mem_of_getElem? (i := 689) (by decide +kernel)), wc_X2_fill, wi_X2, by decide +kernel, by decide +kernel, by decide⟩, wm_X2_fill, ws_X2_fill, rfl⟩
theorem kX2_27 : CV RX2 27 mX2_bestBut 2 2 := ⟨⟨Or.inl (List.mem_of_getElem? (i := 693) (by decide +kernel)), wc_X2_bestBut, wi_X2, by decide +kernel, by decide +kernel, by decide⟩, wm_X2_bestBut, ws_X2_bestBut, rfl⟩
theorem kX2_31 : CV RX2 31 mX2_gainBy 2 2 := ⟨⟨Or.inl (List.mem_of_getElem? (i := 697) (by decide +kernel)), wc_X2_gainBy, wi_X2, by decide +kernel, by decide +kernel, by decide⟩, wm_X2_gainBy, ws_X2_gainBy, rfl⟩
theorem kX2_34 : CV RX2 34 mX2_worth 2 2 := ⟨⟨Or.inl (List.mem_of_getElem? (i := 701) (by decide +kernel)), wc_X2_worth, wi_X2, by decide +kernel, by decide +kernel, by decide⟩, wm_X2_worth, ws_X2_worth, rfl⟩
theorem kX3_3 : Cond.methodLink RX3 3 Lib.objectInit ∈ lw_tbl := List.mem_of_getElem? (i := 264) (by decide +kernel)
theorem kX3_46 : CS RX3 46 mJ7_fill_53178 2 := ⟨⟨Or.inl (List.mem_of_getElem? (i := 451) (by decide +kernel)), wc_J7_fill_53178, wi_J7, by decide +kernel, by decide +kernel, by decide⟩, wt_J7_fill_53178⟩
theorem kX3_52 : CS RX3 52 mX3_growFrom 5 := ⟨⟨Or.inl (List.mem_of_getElem? (i := 522) (by decide +kernel)), wc_X3_growFrom, wi_X3, by decide +kernel, by decide +kernel, by decide⟩, wt_X3_growFrom⟩
theorem kX3_56 : CV RX3 56 mX3_enter 2 3 := ⟨⟨Or.inl (List.mem_of_getElem? (i := 525) (by decide +kernel)), wc_X3_enter, wi_X3, by decide +kernel, by decide +kernel, by decide⟩, wm_X3_enter, ws_X3_enter, rfl⟩
theorem kX3_60 : CV RX3 60 mX3_isBarred 2 3 := ⟨⟨Or.inl (List.mem_of_getElem? (i := 529) (by decide +kernel)), wc_X3_isBarred, wi_X3, by decide +kernel, by decide +kernel, by decide⟩, wm_X3_isBarred, ws_X3_isBarred, rfl⟩
theorem kX3_64 : CV RX3 64 mX3_lengthOf 1 3 := ⟨⟨Or.inl (List.mem_of_getElem? (i := 612) (by decide +kernel)), wc_X3_lengthOf, wi_X3, by decide +kernel, by decide +kernel, by decide⟩, wm_X3_lengthOf, ws_X3_lengthOf, rfl⟩
theorem kX3_68 : CS RX3 68 mJ9_min_7cf53 2 := ⟨⟨Or.inl (List.mem_of_getElem? (i := 664) (by decide +kernel)), wc_J9_min_7cf53, wi_J9, by decide +kernel, by decide +kernel, by decide⟩, wt_J9_min_7cf53⟩
theorem kX3_74 : CS RX3 74 mJ9_max_7cf53 2 := ⟨⟨Or.inl (List.mem_of_getElem? (i := 621) (by decide +kernel)), wc_J9_max_7cf53, wi_J9, by decide +kernel, by decide +kernel, by decide⟩, wt_J9_max_7cf53⟩
theorem kX4_1 : Cond.methodLink RX4 1 Lib.objectInit ∈ lw_tbl := List.mem_of_getElem? (i := 368) (by decide +kernel)
theorem kX4_9 : CI RX4 9 mX8_init 0 := ⟨⟨Or.inr ⟨"RopeWords", List.mem_of_getElem? (i := 370) (by decide +kernel)⟩, wc_X8_init, wi_X8, by decide +kernel, by decide +kernel, by decide⟩, wm_X8_init, rfl, rfl⟩
theorem kX5_1 : Cond.methodLink RX5 1 Lib.objectInit ∈ lw_tbl := List.mem_of_getElem? (i := 185) (by decide +kernel)
theorem kX5_15 : CI RX5 15 mX8_init 0 := ⟨⟨Or.inr ⟨"RopeWords", List.mem_of_getElem? (i := 188) (by decide +kernel)⟩, wc_X8_init, wi_X8, by decide +kernel, by decide +kernel, by decide⟩, wm_X8_init, rfl, rfl⟩
theorem kX5_23 : CV RX5 23 mX8_copyFrom 1 8 := ⟨⟨Or.inr ⟨"RopeWords", List.mem_of_getElem? (i := 600) (by decide +kernel)⟩, wc_X8_copyFrom, wi_X8, by decide +kernel, by decide +kernel, by decide⟩, wm_X8_copyFrom, ws_X8_copyFrom, rfl⟩
theorem kX6_3 : Cond.methodLink RX6 3 Lib.objectInit ∈ lw_tbl := List.mem_of_getElem? (i := 226) (by decide +kernel)
theorem kX6_44 : CV RX6 44 mX6_fillPulls 4 6 := ⟨⟨Or.inl (List.mem_of_getElem? (i := 717) (by decide +kernel)), wc_X6_fillPulls, wi_X6, by decide +kernel, by decide +kernel, by decide⟩, wm_X6_fillPulls, ws_X6_fillPulls, rfl⟩
theorem kX6_48 : CV RX6 48 mX6_mostBehind 1 6 := ⟨⟨Or.inl (List.mem_of_getElem? (i := 725) (by decide +kernel)), wc_X6_mostBehind, wi_X6, by decide +kernel, by decide +kernel, by decide⟩, wm_X6_mostBehind, ws_X6_mostBehind, rfl⟩
theorem kX6_53 : CS RX6 53 mJ9_min_7cf53 2 := ⟨⟨Or.inl (List.mem_of_getElem? (i := 721) (by decide +kernel)), wc_J9_min_7cf53, wi_J9, by decide +kernel, by decide +kernel, by decide⟩, wt_J9_min_7cf53⟩
theorem kX6_63 : CV RX6 63 mX3_longestWithin 1 3 := ⟨⟨Or.inr ⟨"RopeWords", List.mem_of_getElem? (i := 722) (by decide +kernel)⟩, wc_X3_longestWithin, wi_X3, by decide +kernel, by decide +kernel, by decide⟩, wm_X3_longestWithin, ws_X3_longestWithin, rfl⟩
theorem kX6_68 : CS RX6 68 mJ9_max_7cf53 2 := ⟨⟨Or.inl (List.mem_of_getElem? (i := 723) (by decide +kernel)), wc_J9_max_7cf53, wi_J9, by decide +kernel, by decide +kernel, by decide⟩, wt_J9_max_7cf53⟩
theorem kX6_74 : CV RX6 74 mX3_pullOf 2 3 := ⟨⟨Or.inr ⟨"RopeWords", List.mem_of_getElem? (i := 724) (by decide +kernel)⟩, wc_X3_pullOf, wi_X3, by decide +kernel, by decide +kernel, by decide⟩, wm_X3_pullOf, ws_X3_pullOf, rfl⟩
theorem kX6_77 : CV RX6 77 mX6_throughMember 2 6 := ⟨⟨Or.inl (List.mem_of_getElem? (i := 729) (by decide +kernel)), wc_X6_throughMember, wi_X6, by decide +kernel, by decide +kernel, by decide⟩, wm_X6_throughMember, ws_X6_throughMember, rfl⟩
theorem kX6_80 : CS RX6 80 mJ6_bitCount_0f7a4 1 := ⟨⟨Or.inl (List.mem_of_getElem? (i := 733) (by decide +kernel)), wc_J6_bitCount_0f7a4, wi_J6, by decide +kernel, by decide +kernel, by decide⟩, wt_J6_bitCount_0f7a4⟩
theorem kX6_85 : CV RX6 85 mX6_firstOfBest 1 6 := ⟨⟨Or.inl (List.mem_of_getElem? (i := 747) (by decide +kernel)), wc_X6_firstOfBest, wi_X6, by decide +kernel, by decide +kernel, by decide⟩, wm_X6_firstOfBest, ws_X6_firstOfBest, rfl⟩
theorem kX7_3 : Cond.methodLink RX7 3 Lib.objectInit ∈ lw_tbl := List.mem_of_getElem? (i := 317) (by decide +kernel)
theorem kX7_28 : CS RX7 28 mJ9_abs_0f7a4 1 := ⟨⟨Or.inl (List.mem_of_getElem? (i := 784) (by decide +kernel)), wc_J9_abs_0f7a4, wi_J9, by decide +kernel, by decide +kernel, by decide⟩, wt_J9_abs_0f7a4⟩
theorem kX7_34 : CS RX7 34 mJ6_bitCount_0f7a4 1 := ⟨⟨Or.inl (List.mem_of_getElem? (i := 779) (by decide +kernel)), wc_J6_bitCount_0f7a4, wi_J6, by decide +kernel, by decide +kernel, by decide⟩, wt_J6_bitCount_0f7a4⟩
theorem kX7_39 : CV RX7 39 mX7_differenceBy 1 7 := ⟨⟨Or.inl (List.mem_of_getElem? (i := 780) (by decide +kernel)), wc_X7_differenceBy, wi_X7, by decide +kernel, by decide +kernel, by decide⟩, wm_X7_differenceBy, ws_X7_differenceBy, rfl⟩
theorem kX8_3 : Cond.methodLink RX8 3 Lib.objectInit ∈ lw_tbl := List.mem_of_getElem? (i := 156) (by decide +kernel)
theorem kX8_21 : Cond.methodLink RX8 21 arraycopyName ∈ lw_tbl := List.mem_of_getElem? (i := 534) (by decide +kernel)
theorem kX8_43 : CV RX8 43 mX3_syllablesOf 1 3 := ⟨⟨Or.inr ⟨"RopeWords", List.mem_of_getElem? (i := 608) (by decide +kernel)⟩, wc_X3_syllablesOf, wi_X3, by decide +kernel, by decide +kernel, by decide⟩, wm_X3_syllablesOf, ws_X3_syllablesOf, rfl⟩
theorem kX8_49 : CV RX8 49 mX1_wayOf 4 1 := ⟨⟨Or.inr ⟨"RopeWords", List.mem_of_getElem? (i := 613) (by decide +kernel)⟩, wc_X1_wayOf, wi_X1, by decide +kernel, by decide +kernel, by decide⟩, wm_X1_wayOf, ws_X1_wayOf, rfl⟩
theorem kX8_53 : CS RX8 53 mJ9_min_7cf53 2 := ⟨⟨Or.inl (List.mem_of_getElem? (i := 624) (by decide +kernel)), wc_J9_min_7cf53, wi_J9, by decide +kernel, by decide +kernel, by decide⟩, wt_J9_min_7cf53⟩
theorem kX8_59 : CS RX8 59 mJ9_max_7cf53 2 := ⟨⟨Or.inl (List.mem_of_getElem? (i := 627) (by decide +kernel)), wc_J9_max_7cf53, wi_J9, by decide +kernel, by decide +kernel, by decide⟩, wt_J9_max_7cf53⟩
theorem kX8_66 : CV RX8 66 mX8_restAllBut 3 8 := ⟨⟨Or.inl (List.mem_of_getElem? (i := 628) (by decide +kernel)), wc_X8_restAllBut, wi_X8, by decide +kernel, by decide +kernel, by decide⟩, wm_X8_restAllBut, ws_X8_restAllBut, rfl⟩
theorem kX8_70 : CV RX8 70 mX8_remember 1 8 := ⟨⟨Or.inl (List.mem_of_getElem? (i := 632) (by decide +kernel)), wc_X8_remember, wi_X8, by decide +kernel, by decide +kernel, by decide⟩, wm_X8_remember, ws_X8_remember, rfl⟩
theorem kX9_3 : Cond.methodLink RX9 3 Lib.objectInit ∈ lw_tbl := List.mem_of_getElem? (i := 127) (by decide +kernel)
theorem kX9_28 : CV RX9 28 mX1_clear 0 1 := ⟨⟨Or.inr ⟨"RopeWords", List.mem_of_getElem? (i := 443) (by decide +kernel)⟩, wc_X1_clear, wi_X1, by decide +kernel, by decide +kernel, by decide⟩, wm_X1_clear, ws_X1_clear, rfl⟩
theorem kX9_33 : CV RX9 33 mX9_skipBlanks 0 9 := ⟨⟨Or.inl (List.mem_of_getElem? (i := 454) (by decide +kernel)), wc_X9_skipBlanks, wi_X9, by decide +kernel, by decide +kernel, by decide⟩, wm_X9_skipBlanks, ws_X9_skipBlanks, rfl⟩
theorem kX9_36 : CV RX9 36 mX9_readClause 2 9 := ⟨⟨Or.inl (List.mem_of_getElem? (i := 458) (by decide +kernel)), wc_X9_readClause, wi_X9, by decide +kernel, by decide +kernel, by decide⟩, wm_X9_readClause, ws_X9_readClause, rfl⟩
theorem kX9_49 : CV RX9 49 mX9_fail 2 9 := ⟨⟨Or.inl (List.mem_of_getElem? (i := 462) (by decide +kernel)), wc_X9_fail, wi_X9, by decide +kernel, by decide +kernel, by decide⟩, wm_X9_fail, ws_X9_fail, rfl⟩
theorem kX9_53 : CV RX9 53 mX9_readGrammar 1 9 := ⟨⟨Or.inl (List.mem_of_getElem? (i := 466) (by decide +kernel)), wc_X9_readGrammar, wi_X9, by decide +kernel, by decide +kernel, by decide⟩, wm_X9_readGrammar, ws_X9_readGrammar, rfl⟩
theorem kX9_57 : CV RX9 57 mX9_readStem 1 9 := ⟨⟨Or.inl (List.mem_of_getElem? (i := 482) (by decide +kernel)), wc_X9_readStem, wi_X9, by decide +kernel, by decide +kernel, by decide⟩, wm_X9_readStem, ws_X9_readStem, rfl⟩
theorem kX9_60 : CV RX9 60 mX9_readEnding 1 9 := ⟨⟨Or.inl (List.mem_of_getElem? (i := 490) (by decide +kernel)), wc_X9_readEnding, wi_X9, by decide +kernel, by decide +kernel, by decide⟩, wm_X9_readEnding, ws_X9_readEnding, rfl⟩
theorem kX9_67 : CV RX9 67 mX9_readSpeaker 1 9 := ⟨⟨Or.inl (List.mem_of_getElem? (i := 498) (by decide +kernel)), wc_X9_readSpeaker, wi_X9, by decide +kernel, by decide +kernel, by decide⟩, wm_X9_readSpeaker, ws_X9_readSpeaker, rfl⟩
theorem kX9_71 : CV RX9 71 mX9_readBar 1 9 := ⟨⟨Or.inl (List.mem_of_getElem? (i := 506) (by decide +kernel)), wc_X9_readBar, wi_X9, by decide +kernel, by decide +kernel, by decide⟩, wm_X9_readBar, ws_X9_readBar, rfl⟩
theorem kX9_74 : CV RX9 74 mX9_readWord 1 9 := ⟨⟨Or.inl (List.mem_of_getElem? (i := 470) (by decide +kernel)), wc_X9_readWord, wi_X9, by decide +kernel, by decide +kernel, by decide⟩, wm_X9_readWord, ws_X9_readWord, rfl⟩
theorem kX9_78 : CV RX9 78 mX9_readNumber 2 9 := ⟨⟨Or.inl (List.mem_of_getElem? (i := 474) (by decide +kernel)), wc_X9_readNumber, wi_X9, by decide +kernel, by decide +kernel, by decide⟩, wm_X9_readNumber, ws_X9_readNumber, rfl⟩
theorem kX9_82 : CV RX9 82 mX9_readEnd 0 9 := ⟨⟨Or.inl (List.mem_of_getElem? (i := 478) (by decide +kernel)), wc_X9_readEnd, wi_X9, by decide +kernel, by decide +kernel, by decide⟩, wm_X9_readEnd, ws_X9_readEnd, rfl⟩
theorem kX9_91 : CV RX9 91 mX3_addStem 1 3 := ⟨⟨Or.inr ⟨"RopeWords", List.mem_of_getElem? (i := 486) (by decide +kernel)⟩, wc_X3_addStem, wi_X3, by decide +kernel, by decide +kernel, by decide⟩, wm_X3_addStem, ws_X3_addStem, rfl⟩
theorem kX9_98 : CV RX9 98 mX3_addEnding 1 3 := ⟨⟨Or.inr ⟨"RopeWords", List.mem_of_getElem? (i := 494) (by decide +kernel)⟩, wc_X3_addEnding, wi_X3, by decide +kernel, by decide +kernel, by decide⟩, wm_X3_addEnding, ws_X3_addEnding, rfl⟩
theorem kX9_106 : CV RX9 106 mX7_add 4 7 := ⟨⟨Or.inr ⟨"RopeWords", List.mem_of_getElem? (i := 502) (by decide +kernel)⟩, wc_X7_add, wi_X7, by decide +kernel, by decide +kernel, by decide⟩, wm_X7_add, ws_X7_add, rfl⟩
theorem kX9_113 : CV RX9 113 mX3_isBarred 2 3 := ⟨⟨Or.inr ⟨"RopeWords", List.mem_of_getElem? (i := 510) (by decide +kernel)⟩, wc_X3_isBarred, wi_X3, by decide +kernel, by decide +kernel, by decide⟩, wm_X3_isBarred, ws_X3_isBarred, rfl⟩
theorem kX9_120 : CV RX9 120 mX3_bar 2 3 := ⟨⟨Or.inr ⟨"RopeWords", List.mem_of_getElem? (i := 514) (by decide +kernel)⟩, wc_X3_bar, wi_X3, by decide +kernel, by decide +kernel, by decide⟩, wm_X3_bar, ws_X3_bar, rfl⟩
theorem kL_9 : CI RL 9 mX10_init 0 := ⟨⟨Or.inl (List.mem_of_getElem? (i := 116) (by decide +kernel)), wc_X10_init, wi_X10, by decide +kernel, by decide +kernel, by decide⟩, wm_X10_init, rfl, rfl⟩
theorem kL_12 : CI RL 12 mX11_init 0 := ⟨⟨Or.inl (List.mem_of_getElem? (i := 848) (by decide +kernel)), wc_X11_init, wi_X11, by decide +kernel, by decide +kernel, by decide⟩, wm_X11_init, rfl, rfl⟩
theorem kL_13 : CV RL 13 mX10_feed 1 10 := ⟨⟨Or.inl (List.mem_of_getElem? (i := 425) (by decide +kernel)), wc_X10_feed, wi_X10, by decide +kernel, by decide +kernel, by decide⟩, wm_X10_feed, ws_X10_feed, rfl⟩
theorem kL_17 : CV RL 17 mX11_feed 1 11 := ⟨⟨Or.inl (List.mem_of_getElem? (i := 986) (by decide +kernel)), wc_X11_feed, wi_X11, by decide +kernel, by decide +kernel, by decide⟩, wm_X11_feed, ws_X11_feed, rfl⟩
theorem kL_18 : CV RL 18 mX10_feast 0 10 := ⟨⟨Or.inl (List.mem_of_getElem? (i := 435) (by decide +kernel)), wc_X10_feast, wi_X10, by decide +kernel, by decide +kernel, by decide⟩, wm_X10_feast, ws_X10_feast, rfl⟩
theorem kL_22 : CV RL 22 mX11_feast 0 11 := ⟨⟨Or.inl (List.mem_of_getElem? (i := 996) (by decide +kernel)), wc_X11_feast, wi_X11, by decide +kernel, by decide +kernel, by decide⟩, wm_X11_feast, ws_X11_feast, rfl⟩
theorem kL_23 : CV RL 23 mX10_fault 0 10 := ⟨⟨Or.inl (List.mem_of_getElem? (i := 541) (by decide +kernel)), wc_X10_fault, wi_X10, by decide +kernel, by decide +kernel, by decide⟩, wm_X10_fault, ws_X10_fault, rfl⟩
theorem kL_26 : CV RL 26 mX11_fault 0 11 := ⟨⟨Or.inl (List.mem_of_getElem? (i := 1058) (by decide +kernel)), wc_X11_fault, wi_X11, by decide +kernel, by decide +kernel, by decide⟩, wm_X11_fault, ws_X11_fault, rfl⟩
theorem kL_27 : CV RL 27 mX10_told 1 10 := ⟨⟨Or.inl (List.mem_of_getElem? (i := 545) (by decide +kernel)), wc_X10_told, wi_X10, by decide +kernel, by decide +kernel, by decide⟩, wm_X10_told, ws_X10_told, rfl⟩
theorem kL_30 : CV RL 30 mX11_told 1 11 := ⟨⟨Or.inl (List.mem_of_getElem? (i := 1062) (by decide +kernel)), wc_X11_told, wi_X11, by decide +kernel, by decide +kernel, by decide⟩, wm_X11_told, ws_X11_told, rfl⟩
theorem kL_31 : CV RL 31 mX10_stem 1 10 := ⟨⟨Or.inl (List.mem_of_getElem? (i := 549) (by decide +kernel)), wc_X10_stem, wi_X10, by decide +kernel, by decide +kernel, by decide⟩, wm_X10_stem, ws_X10_stem, rfl⟩
theorem kL_34 : CV RL 34 mX11_stem 1 11 := ⟨⟨Or.inl (List.mem_of_getElem? (i := 1066) (by decide +kernel)), wc_X11_stem, wi_X11, by decide +kernel, by decide +kernel, by decide⟩, wm_X11_stem, ws_X11_stem, rfl⟩
theorem kL_35 : CV RL 35 mX10_ending 1 10 := ⟨⟨Or.inl (List.mem_of_getElem? (i := 554) (by decide +kernel)), wc_X10_ending, wi_X10, by decide +kernel, by decide +kernel, by decide⟩, wm_X10_ending, ws_X10_ending, rfl⟩
theorem kL_38 : CV RL 38 mX11_ending 1 11 := ⟨⟨Or.inl (List.mem_of_getElem? (i := 1071) (by decide +kernel)), wc_X11_ending, wi_X11, by decide +kernel, by decide +kernel, by decide⟩, wm_X11_ending, ws_X11_ending, rfl⟩
theorem kL_39 : CV RL 39 mX10_speaker 2 10 := ⟨⟨Or.inl (List.mem_of_getElem? (i := 558) (by decide +kernel)), wc_X10_speaker, wi_X10, by decide +kernel, by decide +kernel, by decide⟩, wm_X10_speaker, ws_X10_speaker, rfl⟩
theorem kL_43 : CV RL 43 mX11_speaker 2 11 := ⟨⟨Or.inl (List.mem_of_getElem? (i := 1075) (by decide +kernel)), wc_X11_speaker, wi_X11, by decide +kernel, by decide +kernel, by decide⟩, wm_X11_speaker, ws_X11_speaker, rfl⟩
theorem kL_44 : CV RL 44 mX10_length 1 10 := ⟨⟨Or.inl (List.mem_of_getElem? (i := 562) (by decide +kernel)), wc_X10_length, wi_X10, by decide +kernel, by decide +kernel, by decide⟩, wm_X10_length, ws_X10_length, rfl⟩
theorem kL_47 : CV RL 47 mX11_length 1 11 := ⟨⟨Or.inl (List.mem_of_getElem? (i := 1083) (by decide +kernel)), wc_X11_length, wi_X11, by decide +kernel, by decide +kernel, by decide⟩, wm_X11_length, ws_X11_length, rfl⟩
theorem kL_48 : CV RL 48 mX10_said 1 10 := ⟨⟨Or.inl (List.mem_of_getElem? (i := 570) (by decide +kernel)), wc_X10_said, wi_X10, by decide +kernel, by decide +kernel, by decide⟩, wm_X10_said, ws_X10_said, rfl⟩
theorem kL_51 : CV RL 51 mX11_said 1 11 := ⟨⟨Or.inl (List.mem_of_getElem? (i := 1100) (by decide +kernel)), wc_X11_said, wi_X11, by decide +kernel, by decide +kernel, by decide⟩, wm_X11_said, ws_X11_said, rfl⟩
theorem kL_52 : CV RL 52 mX10_round 4 10 := ⟨⟨Or.inl (List.mem_of_getElem? (i := 574) (by decide +kernel)), wc_X10_round, wi_X10, by decide +kernel, by decide +kernel, by decide⟩, wm_X10_round, ws_X10_round, rfl⟩
theorem kL_56 : CV RL 56 mX11_round 4 11 := ⟨⟨Or.inl (List.mem_of_getElem? (i := 1104) (by decide +kernel)), wc_X11_round, wi_X11, by decide +kernel, by decide +kernel, by decide⟩, wm_X11_round, ws_X11_round, rfl⟩
theorem kL_57 : CV RL 57 mX10_drift 1 10 := ⟨⟨Or.inl (List.mem_of_getElem? (i := 636) (by decide +kernel)), wc_X10_drift, wi_X10, by decide +kernel, by decide +kernel, by decide⟩, wm_X10_drift, ws_X10_drift, rfl⟩
theorem kL_60 : CV RL 60 mX11_drift 1 11 := ⟨⟨Or.inl (List.mem_of_getElem? (i := 1149) (by decide +kernel)), wc_X11_drift, wi_X11, by decide +kernel, by decide +kernel, by decide⟩, wm_X11_drift, ws_X11_drift, rfl⟩
theorem kL_61 : CV RL 61 mX10_undo 0 10 := ⟨⟨Or.inl (List.mem_of_getElem? (i := 665) (by decide +kernel)), wc_X10_undo, wi_X10, by decide +kernel, by decide +kernel, by decide⟩, wm_X10_undo, ws_X10_undo, rfl⟩
theorem kL_64 : CV RL 64 mX11_undo 0 11 := ⟨⟨Or.inl (List.mem_of_getElem? (i := 1173) (by decide +kernel)), wc_X11_undo, wi_X11, by decide +kernel, by decide +kernel, by decide⟩, wm_X11_undo, ws_X11_undo, rfl⟩
theorem kL_65 : CV RL 65 mX10_longest 2 10 := ⟨⟨Or.inl (List.mem_of_getElem? (i := 673) (by decide +kernel)), wc_X10_longest, wi_X10, by decide +kernel, by decide +kernel, by decide⟩, wm_X10_longest, ws_X10_longest, rfl⟩
theorem kL_68 : CV RL 68 mX11_longest 2 11 := ⟨⟨Or.inl (List.mem_of_getElem? (i := 1087) (by decide +kernel)), wc_X11_longest, wi_X11, by decide +kernel, by decide +kernel, by decide⟩, wm_X11_longest, ws_X11_longest, rfl⟩
theorem kL_69 : CV RL 69 mX10_howMany 1 10 := ⟨⟨Or.inl (List.mem_of_getElem? (i := 677) (by decide +kernel)), wc_X10_howMany, wi_X10, by decide +kernel, by decide +kernel, by decide⟩, wm_X10_howMany, ws_X10_howMany, rfl⟩
theorem kL_72 : CV RL 72 mX11_howMany 1 11 := ⟨⟨Or.inl (List.mem_of_getElem? (i := 1096) (by decide +kernel)), wc_X11_howMany, wi_X11, by decide +kernel, by decide +kernel, by decide⟩, wm_X11_howMany, ws_X11_howMany, rfl⟩
theorem kL_73 : CV RL 73 mX10_game 3 10 := ⟨⟨Or.inl (List.mem_of_getElem? (i := 681) (by decide +kernel)), wc_X10_game, wi_X10, by decide +kernel, by decide +kernel, by decide⟩, wm_X10_game, ws_X10_game, rfl⟩
theorem kL_77 : CV RL 77 mX11_game 3 11 := ⟨⟨Or.inl (List.mem_of_getElem? (i := 1177) (by decide +kernel)), wc_X11_game, wi_X11, by decide +kernel, by decide +kernel, by decide⟩, wm_X11_game, ws_X11_game, rfl⟩
theorem kL_78 : CV RL 78 mX10_order 3 10 := ⟨⟨Or.inl (List.mem_of_getElem? (i := 706) (by decide +kernel)), wc_X10_order, wi_X10, by decide +kernel, by decide +kernel, by decide⟩, wm_X10_order, ws_X10_order, rfl⟩
theorem kL_81 : CV RL 81 mX11_order 3 11 := ⟨⟨Or.inl (List.mem_of_getElem? (i := 1182) (by decide +kernel)), wc_X11_order, wi_X11, by decide +kernel, by decide +kernel, by decide⟩, wm_X11_order, ws_X11_order, rfl⟩
theorem kL_82 : CV RL 82 mX10_even 1 10 := ⟨⟨Or.inl (List.mem_of_getElem? (i := 751) (by decide +kernel)), wc_X10_even, wi_X10, by decide +kernel, by decide +kernel, by decide⟩, wm_X10_even, ws_X10_even, rfl⟩
theorem kL_85 : CV RL 85 mX11_even 1 11 := ⟨⟨Or.inl (List.mem_of_getElem? (i := 1198) (by decide +kernel)), wc_X11_even, wi_X11, by decide +kernel, by decide +kernel, by decide⟩, wm_X11_even, ws_X11_even, rfl⟩
theorem kL_86 : CV RL 86 mX10_silence 2 10 := ⟨⟨Or.inl (List.mem_of_getElem? (i := 762) (by decide +kernel)), wc_X10_silence, wi_X10, by decide +kernel, by decide +kernel, by decide⟩, wm_X10_silence, ws_X10_silence, rfl⟩
theorem kL_89 : CV RL 89 mX11_silence 2 11 := ⟨⟨Or.inl (List.mem_of_getElem? (i := 1206) (by decide +kernel)), wc_X11_silence, wi_X11, by decide +kernel, by decide +kernel, by decide⟩, wm_X11_silence, ws_X11_silence, rfl⟩
theorem kL_90 : CV RL 90 mX10_pick 1 10 := ⟨⟨Or.inl (List.mem_of_getElem? (i := 771) (by decide +kernel)), wc_X10_pick, wi_X10, by decide +kernel, by decide +kernel, by decide⟩, wm_X10_pick, ws_X10_pick, rfl⟩
theorem kL_93 : CV RL 93 mX11_pick 1 11 := ⟨⟨Or.inl (List.mem_of_getElem? (i := 1214) (by decide +kernel)), wc_X11_pick, wi_X11, by decide +kernel, by decide +kernel, by decide⟩, wm_X11_pick, ws_X11_pick, rfl⟩
theorem kL_94 : CV RL 94 mX10_coughs 1 10 := ⟨⟨Or.inl (List.mem_of_getElem? (i := 786) (by decide +kernel)), wc_X10_coughs, wi_X10, by decide +kernel, by decide +kernel, by decide⟩, wm_X10_coughs, ws_X10_coughs, rfl⟩
theorem kL_97 : CV RL 97 mX11_coughs 1 11 := ⟨⟨Or.inl (List.mem_of_getElem? (i := 1221) (by decide +kernel)), wc_X11_coughs, wi_X11, by decide +kernel, by decide +kernel, by decide⟩, wm_X11_coughs, ws_X11_coughs, rfl⟩
theorem kL_98 : CV RL 98 mX10_keepBack 1 10 := ⟨⟨Or.inl (List.mem_of_getElem? (i := 796) (by decide +kernel)), wc_X10_keepBack, wi_X10, by decide +kernel, by decide +kernel, by decide⟩, wm_X10_keepBack, ws_X10_keepBack, rfl⟩
theorem kL_101 : CV RL 101 mX11_keepBack 1 11 := ⟨⟨Or.inl (List.mem_of_getElem? (i := 1227) (by decide +kernel)), wc_X11_keepBack, wi_X11, by decide +kernel, by decide +kernel, by decide⟩, wm_X11_keepBack, ws_X11_keepBack, rfl⟩
theorem kL_102 : CV RL 102 mX10_mark 1 10 := ⟨⟨Or.inl (List.mem_of_getElem? (i := 804) (by decide +kernel)), wc_X10_mark, wi_X10, by decide +kernel, by decide +kernel, by decide⟩, wm_X10_mark, ws_X10_mark, rfl⟩
theorem kL_105 : CV RL 105 mX11_mark 1 11 := ⟨⟨Or.inl (List.mem_of_getElem? (i := 1231) (by decide +kernel)), wc_X11_mark, wi_X11, by decide +kernel, by decide +kernel, by decide⟩, wm_X11_mark, ws_X11_mark, rfl⟩
theorem kL_106 : CV RL 106 mX10_spoke 2 10 := ⟨⟨Or.inl (List.mem_of_getElem? (i := 808) (by decide +kernel)), wc_X10_spoke, wi_X10, by decide +kernel, by decide +kernel, by decide⟩, wm_X10_spoke, ws_X10_spoke, rfl⟩
theorem kL_109 : CV RL 109 mX11_spoke 2 11 := ⟨⟨Or.inl (List.mem_of_getElem? (i := 1236) (by decide +kernel)), wc_X11_spoke, wi_X11, by decide +kernel, by decide +kernel, by decide⟩, wm_X11_spoke, ws_X11_spoke, rfl⟩
theorem kL_110 : CV RL 110 mX10_write 2 10 := ⟨⟨Or.inl (List.mem_of_getElem? (i := 821) (by decide +kernel)), wc_X10_write, wi_X10, by decide +kernel, by decide +kernel, by decide⟩, wm_X10_write, ws_X10_write, rfl⟩
theorem kL_113 : CV RL 113 mX11_write 2 11 := ⟨⟨Or.inl (List.mem_of_getElem? (i := 1248) (by decide +kernel)), wc_X11_write, wi_X11, by decide +kernel, by decide +kernel, by decide⟩, wm_X11_write, ws_X11_write, rfl⟩
theorem kL_114 : CV RL 114 mX10_tear 0 10 := ⟨⟨Or.inl (List.mem_of_getElem? (i := 825) (by decide +kernel)), wc_X10_tear, wi_X10, by decide +kernel, by decide +kernel, by decide⟩, wm_X10_tear, ws_X10_tear, rfl⟩
theorem kL_117 : CV RL 117 mX11_tear 0 11 := ⟨⟨Or.inl (List.mem_of_getElem? (i := 1255) (by decide +kernel)), wc_X11_tear, wi_X11, by decide +kernel, by decide +kernel, by decide⟩, wm_X11_tear, ws_X11_tear, rfl⟩
theorem kL_118 : CV RL 118 mX10_judge 0 10 := ⟨⟨Or.inl (List.mem_of_getElem? (i := 829) (by decide +kernel)), wc_X10_judge, wi_X10, by decide +kernel, by decide +kernel, by decide⟩, wm_X10_judge, ws_X10_judge, rfl⟩
theorem kL_121 : CV RL 121 mX11_judge 0 11 := ⟨⟨Or.inl (List.mem_of_getElem? (i := 1259) (by decide +kernel)), wc_X11_judge, wi_X11, by decide +kernel, by decide +kernel, by decide⟩, wm_X11_judge, ws_X11_judge, rfl⟩
theorem kL_122 : CV RL 122 mX10_seed 1 10 := ⟨⟨Or.inl (List.mem_of_getElem? (i := 833) (by decide +kernel)), wc_X10_seed, wi_X10, by decide +kernel, by decide +kernel, by decide⟩, wm_X10_seed, ws_X10_seed, rfl⟩
theorem kL_125 : CV RL 125 mX11_seed 1 11 := ⟨⟨Or.inl (List.mem_of_getElem? (i := 1263) (by decide +kernel)), wc_X11_seed, wi_X11, by decide +kernel, by decide +kernel, by decide⟩, wm_X11_seed, ws_X11_seed, rfl⟩
theorem kL_126 : CV RL 126 mX10_keep 1 10 := ⟨⟨Or.inl (List.mem_of_getElem? (i := 837) (by decide +kernel)), wc_X10_keep, wi_X10, by decide +kernel, by decide +kernel, by decide⟩, wm_X10_keep, ws_X10_keep, rfl⟩
theorem kL_129 : CV RL 129 mX11_keep 1 11 := ⟨⟨Or.inl (List.mem_of_getElem? (i := 1267) (by decide +kernel)), wc_X11_keep, wi_X11, by decide +kernel, by decide +kernel, by decide⟩, wm_X11_keep, ws_X11_keep, rfl⟩
theorem kL_130 : CV RL 130 mX10_goBack 1 10 := ⟨⟨Or.inl (List.mem_of_getElem? (i := 842) (by decide +kernel)), wc_X10_goBack, wi_X10, by decide +kernel, by decide +kernel, by decide⟩, wm_X10_goBack, ws_X10_goBack, rfl⟩
theorem kL_133 : CV RL 133 mX11_goBack 1 11 := ⟨⟨Or.inl (List.mem_of_getElem? (i := 1271) (by decide +kernel)), wc_X11_goBack, wi_X11, by decide +kernel, by decide +kernel, by decide⟩, wm_X11_goBack, ws_X11_goBack, rfl⟩
theorem kX11_1 : Cond.methodLink RX11 1 Lib.objectInit ∈ lw_tbl := List.mem_of_getElem? (i := 851) (by decide +kernel)
theorem kX11_96 : CS RX11 96 mX11_in 3 := ⟨⟨Or.inl (List.mem_of_getElem? (i := 991) (by decide +kernel)), wc_X11_in, wi_X11, by decide +kernel, by decide +kernel, by decide⟩, wt_X11_in⟩
theorem kX11_100 : CV RX11 100 mX11_isSpeaker 1 11 := ⟨⟨Or.inl (List.mem_of_getElem? (i := 1079) (by decide +kernel)), wc_X11_isSpeaker, wi_X11, by decide +kernel, by decide +kernel, by decide⟩, wm_X11_isSpeaker, ws_X11_isSpeaker, rfl⟩
theorem kX11_114 : CV RX11 114 mX11_here 0 11 := ⟨⟨Or.inl (List.mem_of_getElem? (i := 1000) (by decide +kernel)), wc_X11_here, wi_X11, by decide +kernel, by decide +kernel, by decide⟩, wm_X11_here, ws_X11_here, rfl⟩
theorem kX11_122 : CV RX11 122 mX11_fails 2 11 := ⟨⟨Or.inl (List.mem_of_getElem? (i := 1008) (by decide +kernel)), wc_X11_fails, wi_X11, by decide +kernel, by decide +kernel, by decide⟩, wm_X11_fails, ws_X11_fails, rfl⟩
theorem kX11_132 : CV RX11 132 mX11_takeNumber 2 11 := ⟨⟨Or.inl (List.mem_of_getElem? (i := 1020) (by decide +kernel)), wc_X11_takeNumber, wi_X11, by decide +kernel, by decide +kernel, by decide⟩, wm_X11_takeNumber, ws_X11_takeNumber, rfl⟩
theorem kX11_135 : CV RX11 135 mX11_into 4 11 := ⟨⟨Or.inl (List.mem_of_getElem? (i := 1016) (by decide +kernel)), wc_X11_into, wi_X11, by decide +kernel, by decide +kernel, by decide⟩, wm_X11_into, ws_X11_into, rfl⟩
theorem kX11_151 : CS RX11 151 mX11_has 2 := ⟨⟨Or.inl (List.mem_of_getElem? (i := 1042) (by decide +kernel)), wc_X11_has, wi_X11, by decide +kernel, by decide +kernel, by decide⟩, wt_X11_has⟩
theorem kX11_155 : CV RX11 155 mX11_takeGrammar 0 11 := ⟨⟨Or.inl (List.mem_of_getElem? (i := 1012) (by decide +kernel)), wc_X11_takeGrammar, wi_X11, by decide +kernel, by decide +kernel, by decide⟩, wm_X11_takeGrammar, ws_X11_takeGrammar, rfl⟩
theorem kX11_158 : CV RX11 158 mX11_takeStem 0 11 := ⟨⟨Or.inl (List.mem_of_getElem? (i := 1026) (by decide +kernel)), wc_X11_takeStem, wi_X11, by decide +kernel, by decide +kernel, by decide⟩, wm_X11_takeStem, ws_X11_takeStem, rfl⟩
theorem kX11_161 : CV RX11 161 mX11_takeEnding 0 11 := ⟨⟨Or.inl (List.mem_of_getElem? (i := 1030) (by decide +kernel)), wc_X11_takeEnding, wi_X11, by decide +kernel, by decide +kernel, by decide⟩, wm_X11_takeEnding, ws_X11_takeEnding, rfl⟩
theorem kX11_164 : CV RX11 164 mX11_takeSpeaker 0 11 := ⟨⟨Or.inl (List.mem_of_getElem? (i := 1034) (by decide +kernel)), wc_X11_takeSpeaker, wi_X11, by decide +kernel, by decide +kernel, by decide⟩, wm_X11_takeSpeaker, ws_X11_takeSpeaker, rfl⟩
theorem kX11_167 : CV RX11 167 mX11_takeBar 0 11 := ⟨⟨Or.inl (List.mem_of_getElem? (i := 1038) (by decide +kernel)), wc_X11_takeBar, wi_X11, by decide +kernel, by decide +kernel, by decide⟩, wm_X11_takeBar, ws_X11_takeBar, rfl⟩
theorem kX11_182 : CV RX11 182 mX11_findWords 0 11 := ⟨⟨Or.inl (List.mem_of_getElem? (i := 1049) (by decide +kernel)), wc_X11_findWords, wi_X11, by decide +kernel, by decide +kernel, by decide⟩, wm_X11_findWords, ws_X11_findWords, rfl⟩
theorem kX11_185 : CV RX11 185 mX11_takeClause 0 11 := ⟨⟨Or.inl (List.mem_of_getElem? (i := 1004) (by decide +kernel)), wc_X11_takeClause, wi_X11, by decide +kernel, by decide +kernel, by decide⟩, wm_X11_takeClause, ws_X11_takeClause, rfl⟩
theorem kX11_188 : CV RX11 188 mX11_takeRead 0 11 := ⟨⟨Or.inl (List.mem_of_getElem? (i := 1045) (by decide +kernel)), wc_X11_takeRead, wi_X11, by decide +kernel, by decide +kernel, by decide⟩, wm_X11_takeRead, ws_X11_takeRead, rfl⟩
theorem kX11_201 : CV RX11 201 mX11_lengthOf 1 11 := ⟨⟨Or.inl (List.mem_of_getElem? (i := 1054) (by decide +kernel)), wc_X11_lengthOf, wi_X11, by decide +kernel, by decide +kernel, by decide⟩, wm_X11_lengthOf, ws_X11_lengthOf, rfl⟩
theorem kX11_208 : CV RX11 208 mX11_longestOf 1 11 := ⟨⟨Or.inl (List.mem_of_getElem? (i := 1092) (by decide +kernel)), wc_X11_longestOf, wi_X11, by decide +kernel, by decide +kernel, by decide⟩, wm_X11_longestOf, ws_X11_longestOf, rfl⟩
theorem kX11_211 : CV RX11 211 mX11_pullOf 2 11 := ⟨⟨Or.inl (List.mem_of_getElem? (i := 1138) (by decide +kernel)), wc_X11_pullOf, wi_X11, by decide +kernel, by decide +kernel, by decide⟩, wm_X11_pullOf, ws_X11_pullOf, rfl⟩
theorem kX11_214 : CV RX11 214 mX11_lengthSaid 1 11 := ⟨⟨Or.inl (List.mem_of_getElem? (i := 1130) (by decide +kernel)), wc_X11_lengthSaid, wi_X11, by decide +kernel, by decide +kernel, by decide⟩, wm_X11_lengthSaid, ws_X11_lengthSaid, rfl⟩
theorem kX11_217 : CV RX11 217 mX11_goesBy 4 11 := ⟨⟨Or.inl (List.mem_of_getElem? (i := 1134) (by decide +kernel)), wc_X11_goesBy, wi_X11, by decide +kernel, by decide +kernel, by decide⟩, wm_X11_goesBy, ws_X11_goesBy, rfl⟩
theorem kX11_221 : CS RX11 221 mX11_held 1 := ⟨⟨Or.inl (List.mem_of_getElem? (i := 1142) (by decide +kernel)), wc_X11_held, wi_X11, by decide +kernel, by decide +kernel, by decide⟩, wt_X11_held⟩
theorem kX11_224 : CV RX11 224 mX11_say 1 11 := ⟨⟨Or.inl (List.mem_of_getElem? (i := 1145) (by decide +kernel)), wc_X11_say, wi_X11, by decide +kernel, by decide +kernel, by decide⟩, wm_X11_say, ws_X11_say, rfl⟩
theorem kX11_228 : CV RX11 228 mX11_wasSaid 1 11 := ⟨⟨Or.inl (List.mem_of_getElem? (i := 1116) (by decide +kernel)), wc_X11_wasSaid, wi_X11, by decide +kernel, by decide +kernel, by decide⟩, wm_X11_wasSaid, ws_X11_wasSaid, rfl⟩
theorem kX11_231 : CV RX11 231 mX11_isOf 2 11 := ⟨⟨Or.inl (List.mem_of_getElem? (i := 1108) (by decide +kernel)), wc_X11_isOf, wi_X11, by decide +kernel, by decide +kernel, by decide⟩, wm_X11_isOf, ws_X11_isOf, rfl⟩
theorem kX11_234 : CV RX11 234 mX11_canSay 2 11 := ⟨⟨Or.inl (List.mem_of_getElem? (i := 1112) (by decide +kernel)), wc_X11_canSay, wi_X11, by decide +kernel, by decide +kernel, by decide⟩, wm_X11_canSay, ws_X11_canSay, rfl⟩
theorem kX11_239 : CV RX11 239 mX11_remember 0 11 := ⟨⟨Or.inl (List.mem_of_getElem? (i := 1122) (by decide +kernel)), wc_X11_remember, wi_X11, by decide +kernel, by decide +kernel, by decide⟩, wm_X11_remember, ws_X11_remember, rfl⟩
theorem kX11_242 : CV RX11 242 mX11_roundNow 4 11 := ⟨⟨Or.inl (List.mem_of_getElem? (i := 1126) (by decide +kernel)), wc_X11_roundNow, wi_X11, by decide +kernel, by decide +kernel, by decide⟩, wm_X11_roundNow, ws_X11_roundNow, rfl⟩
theorem kX11_255 : CV RX11 255 mX11_draw 1 11 := ⟨⟨Or.inl (List.mem_of_getElem? (i := 1157) (by decide +kernel)), wc_X11_draw, wi_X11, by decide +kernel, by decide +kernel, by decide⟩, wm_X11_draw, ws_X11_draw, rfl⟩
theorem kX11_258 : CV RX11 258 mX11_manyOfSide 1 11 := ⟨⟨Or.inl (List.mem_of_getElem? (i := 1153) (by decide +kernel)), wc_X11_manyOfSide, wi_X11, by decide +kernel, by decide +kernel, by decide⟩, wm_X11_manyOfSide, ws_X11_manyOfSide, rfl⟩
theorem kX11_261 : CV RX11 261 mX11_speakerOf 2 11 := ⟨⟨Or.inl (List.mem_of_getElem? (i := 1165) (by decide +kernel)), wc_X11_speakerOf, wi_X11, by decide +kernel, by decide +kernel, by decide⟩, wm_X11_speakerOf, ws_X11_speakerOf, rfl⟩
theorem kX11_264 : CV RX11 264 mX11_drawn 2 11 := ⟨⟨Or.inl (List.mem_of_getElem? (i := 1169) (by decide +kernel)), wc_X11_drawn, wi_X11, by decide +kernel, by decide +kernel, by decide⟩, wm_X11_drawn, ws_X11_drawn, rfl⟩
theorem kX11_269 : CS RX11 269 mX11_figure 3 := ⟨⟨Or.inl (List.mem_of_getElem? (i := 1191) (by decide +kernel)), wc_X11_figure, wi_X11, by decide +kernel, by decide +kernel, by decide⟩, wt_X11_figure⟩
theorem kX11_273 : CV RX11 273 mX11_pullAt 3 11 := ⟨⟨Or.inl (List.mem_of_getElem? (i := 1194) (by decide +kernel)), wc_X11_pullAt, wi_X11, by decide +kernel, by decide +kernel, by decide⟩, wm_X11_pullAt, ws_X11_pullAt, rfl⟩
theorem kX11_278 : CV RX11 278 mX11_farBy 4 11 := ⟨⟨Or.inl (List.mem_of_getElem? (i := 1187) (by decide +kernel)), wc_X11_farBy, wi_X11, by decide +kernel, by decide +kernel, by decide⟩, wm_X11_farBy, ws_X11_farBy, rfl⟩
theorem kX11_281 : CV RX11 281 mX11_weightOf 1 11 := ⟨⟨Or.inl (List.mem_of_getElem? (i := 1202) (by decide +kernel)), wc_X11_weightOf, wi_X11, by decide +kernel, by decide +kernel, by decide⟩, wm_X11_weightOf, ws_X11_weightOf, rfl⟩
theorem kX11_284 : CV RX11 284 mX11_longestNow 1 11 := ⟨⟨Or.inl (List.mem_of_getElem? (i := 1210) (by decide +kernel)), wc_X11_longestNow, wi_X11, by decide +kernel, by decide +kernel, by decide⟩, wm_X11_longestNow, ws_X11_longestNow, rfl⟩
theorem kX11_287 : CS RX11 287 mX11_bits 1 := ⟨⟨Or.inl (List.mem_of_getElem? (i := 1218) (by decide +kernel)), wc_X11_bits, wi_X11, by decide +kernel, by decide +kernel, by decide⟩, wt_X11_bits⟩
theorem kX11_296 : CV RX11 296 mX11_isLength 1 11 := ⟨⟨Or.inl (List.mem_of_getElem? (i := 1244) (by decide +kernel)), wc_X11_isLength, wi_X11, by decide +kernel, by decide +kernel, by decide⟩, wm_X11_isLength, ws_X11_isLength, rfl⟩
theorem kX11_299 : CV RX11 299 mX11_could 3 11 := ⟨⟨Or.inl (List.mem_of_getElem? (i := 1240) (by decide +kernel)), wc_X11_could, wi_X11, by decide +kernel, by decide +kernel, by decide⟩, wm_X11_could, ws_X11_could, rfl⟩
theorem cX10_78 : Cond.constant RX10 78 (i32 (-1000000002)) ∈ lw_tbl := List.mem_of_getElem? (i := 429) (by decide +kernel)
theorem cX10_83 : Cond.constant RX10 83 (i32 (-1000000004)) ∈ lw_tbl := List.mem_of_getElem? (i := 430) (by decide +kernel)
theorem cX10_155 : Cond.constant RX10 155 (i32 (-1000000001)) ∈ lw_tbl := List.mem_of_getElem? (i := 553) (by decide +kernel)
theorem cX10_189 : Cond.constant RX10 189 (i32 (-1000000003)) ∈ lw_tbl := List.mem_of_getElem? (i := 594) (by decide +kernel)
theorem cX10_190 : Cond.constant RX10 190 (i32 (90000)) ∈ lw_tbl := List.mem_of_getElem? (i := 595) (by decide +kernel)
theorem cX0_19 : Cond.constant RX0 19 (i32 (65536)) ∈ lw_tbl := List.mem_of_getElem? (i := 651) (by decide +kernel)
theorem cX11_106 : Cond.constant RX11 106 (i32 (-1000000002)) ∈ lw_tbl := List.mem_of_getElem? (i := 994) (by decide +kernel)
theorem cX11_110 : Cond.constant RX11 110 (i32 (-1000000004)) ∈ lw_tbl := List.mem_of_getElem? (i := 995) (by decide +kernel)
theorem cX11_200 : Cond.constant RX11 200 (i32 (-1000000001)) ∈ lw_tbl := List.mem_of_getElem? (i := 1070) (by decide +kernel)
theorem cX11_205 : Cond.constant RX11 205 (i32 (66670)) ∈ lw_tbl := List.mem_of_getElem? (i := 1053) (by decide +kernel)
theorem cX11_237 : Cond.constant RX11 237 (i32 (-1000000003)) ∈ lw_tbl := List.mem_of_getElem? (i := 1120) (by decide +kernel)
theorem cX11_238 : Cond.constant RX11 238 (i32 (90000)) ∈ lw_tbl := List.mem_of_getElem? (i := 1121) (by decide +kernel)
theorem cX11_254 : Cond.constant RX11 254 (i32 (65536)) ∈ lw_tbl := List.mem_of_getElem? (i := 1164) (by decide +kernel)
theorem cJ6_265 : Cond.constant RJ6 265 (i32 (1431655765)) ∈ lw_tbl := List.mem_of_getElem? (i := 736) (by decide +kernel)
theorem cJ6_266 : Cond.constant RJ6 266 (i32 (858993459)) ∈ lw_tbl := List.mem_of_getElem? (i := 737) (by decide +kernel)
theorem cJ6_267 : Cond.constant RJ6 267 (i32 (252645135)) ∈ lw_tbl := List.mem_of_getElem? (i := 738) (by decide +kernel)
theorem clX0_13 : Cond.constantLong RX0 13 (i64 (1103515245)) ∈ lw_tbl := List.mem_of_getElem? (i := 648) (by decide +kernel)
theorem clX0_15 : Cond.constantLong RX0 15 (i64 (12345)) ∈ lw_tbl := List.mem_of_getElem? (i := 649) (by decide +kernel)
theorem clX0_17 : Cond.constantLong RX0 17 (i64 (2147483647)) ∈ lw_tbl := List.mem_of_getElem? (i := 650) (by decide +kernel)
theorem clX7_42 : Cond.constantLong RX7 42 (i64 (1000000000)) ∈ lw_tbl := List.mem_of_getElem? (i := 794) (by decide +kernel)
theorem clX7_44 : Cond.constantLong RX7 44 (i64 (100)) ∈ lw_tbl := List.mem_of_getElem? (i := 795) (by decide +kernel)
theorem clX11_104 : Cond.constantLong RX11 104 (i64 (255)) ∈ lw_tbl := List.mem_of_getElem? (i := 990) (by decide +kernel)
theorem clX11_118 : Cond.constantLong RX11 118 (i64 (48)) ∈ lw_tbl := List.mem_of_getElem? (i := 1024) (by decide +kernel)
theorem clX11_120 : Cond.constantLong RX11 120 (i64 (57)) ∈ lw_tbl := List.mem_of_getElem? (i := 1025) (by decide +kernel)
theorem clX11_206 : Cond.constantLong RX11 206 (i64 (99)) ∈ lw_tbl := List.mem_of_getElem? (i := 1091) (by decide +kernel)
theorem clX11_248 : Cond.constantLong RX11 248 (i64 (1103515245)) ∈ lw_tbl := List.mem_of_getElem? (i := 1161) (by decide +kernel)
theorem clX11_250 : Cond.constantLong RX11 250 (i64 (12345)) ∈ lw_tbl := List.mem_of_getElem? (i := 1162) (by decide +kernel)
theorem clX11_252 : Cond.constantLong RX11 252 (i64 (2147483648)) ∈ lw_tbl := List.mem_of_getElem? (i := 1163) (by decide +kernel)
theorem clX11_267 : Cond.constantLong RX11 267 (i64 (10)) ∈ lw_tbl := List.mem_of_getElem? (i := 1181) (by decide +kernel)
theorem clX11_276 : Cond.constantLong RX11 276 (i64 (40)) ∈ lw_tbl := List.mem_of_getElem? (i := 1186) (by decide +kernel)
theorem clX11_290 : Cond.constantLong RX11 290 (i64 (1000000000)) ∈ lw_tbl := List.mem_of_getElem? (i := 1225) (by decide +kernel)
theorem clX11_292 : Cond.constantLong RX11 292 (i64 (100)) ∈ lw_tbl := List.mem_of_getElem? (i := 1226) (by decide +kernel)
theorem clX11_294 : Cond.constantLong RX11 294 (i64 (-99)) ∈ lw_tbl := List.mem_of_getElem? (i := 1235) (by decide +kernel)
theorem clX11_303 : Cond.constantLong RX11 303 (i64 (999)) ∈ lw_tbl := List.mem_of_getElem? (i := 1252) (by decide +kernel)
theorem clX11_305 : Cond.constantLong RX11 305 (i64 (-500)) ∈ lw_tbl := List.mem_of_getElem? (i := 1253) (by decide +kernel)
theorem clX11_307 : Cond.constantLong RX11 307 (i64 (500)) ∈ lw_tbl := List.mem_of_getElem? (i := 1254) (by decide +kernel)
theorem nX10_7 : Cond.classLink RX10 7 RX9 ∈ lw_tbl := List.mem_of_getElem? (i := 122) (by decide +kernel)
theorem nX10_16 : Cond.classLink RX10 16 RX8 ∈ lw_tbl := List.mem_of_getElem? (i := 151) (by decide +kernel)
theorem nX10_23 : Cond.classLink RX10 23 RX5 ∈ lw_tbl := List.mem_of_getElem? (i := 180) (by decide +kernel)
theorem nX10_30 : Cond.classLink RX10 30 RX4 ∈ lw_tbl := List.mem_of_getElem? (i := 200) (by decide +kernel)
theorem nX10_36 : Cond.classLink RX10 36 RX2 ∈ lw_tbl := List.mem_of_getElem? (i := 202) (by decide +kernel)
theorem nX10_43 : Cond.classLink RX10 43 RX6 ∈ lw_tbl := List.mem_of_getElem? (i := 221) (by decide +kernel)
theorem nX10_60 : Cond.classLink RX10 60 RX0 ∈ lw_tbl := List.mem_of_getElem? (i := 242) (by decide +kernel)
theorem nX10_67 : Cond.classLink RX10 67 RX1 ∈ lw_tbl := List.mem_of_getElem? (i := 253) (by decide +kernel)
theorem nX1_7 : Cond.classLink RX1 7 RX3 ∈ lw_tbl := List.mem_of_getElem? (i := 259) (by decide +kernel)
theorem nX1_16 : Cond.classLink RX1 16 RX7 ∈ lw_tbl := List.mem_of_getElem? (i := 312) (by decide +kernel)
theorem nX4_7 : Cond.classLink RX4 7 RX8 ∈ lw_tbl := List.mem_of_getElem? (i := 369) (by decide +kernel)
theorem nX5_9 : Cond.classLink RX5 9 RX8 ∈ lw_tbl := List.mem_of_getElem? (i := 186) (by decide +kernel)
theorem nX6_15 : Cond.classLink RX6 15 "[[I" ∈ lw_tbl := List.mem_of_getElem? (i := 227) (by decide +kernel)
theorem nL_7 : Cond.classLink RL 7 RX10 ∈ lw_tbl := List.mem_of_getElem? (i := 114) (by decide +kernel)
theorem nL_10 : Cond.classLink RL 10 RX11 ∈ lw_tbl := List.mem_of_getElem? (i := 846) (by decide +kernel)
theorem wn_X10 : Cond.instantiable RX10 14 ∈ lw_tbl := List.mem_of_getElem? (i := 115) (by decide +kernel)
theorem wn_X9 : Cond.instantiable RX9 6 ∈ lw_tbl := List.mem_of_getElem? (i := 123) (by decide +kernel)
theorem wn_X8 : Cond.instantiable RX8 5 ∈ lw_tbl := List.mem_of_getElem? (i := 152) (by decide +kernel)
theorem wn_X5 : Cond.instantiable RX5 3 ∈ lw_tbl := List.mem_of_getElem? (i := 181) (by decide +kernel)
theorem wn_X2 : Cond.instantiable RX2 4 ∈ lw_tbl := List.mem_of_getElem? (i := 203) (by decide +kernel)
theorem wn_X6 : Cond.instantiable RX6 4 ∈ lw_tbl := List.mem_of_getElem? (i := 222) (by decide +kernel)
theorem wn_X0 : Cond.instantiable RX0 1 ∈ lw_tbl := List.mem_of_getElem? (i := 243) (by decide +kernel)
theorem wn_X1 : Cond.instantiable RX1 2 ∈ lw_tbl := List.mem_of_getElem? (i := 254) (by decide +kernel)
theorem wn_X3 : Cond.instantiable RX3 11 ∈ lw_tbl := List.mem_of_getElem? (i := 260) (by decide +kernel)
theorem wn_X7 : Cond.instantiable RX7 5 ∈ lw_tbl := List.mem_of_getElem? (i := 313) (by decide +kernel)
theorem wn_X4 : Cond.instantiable RX4 3 ∈ lw_tbl := List.mem_of_getElem? (i := 364) (by decide +kernel)
theorem wn_X11 : Cond.instantiable RX11 44 ∈ lw_tbl := List.mem_of_getElem? (i := 847) (by decide +kernel)
theorem wac_char : Cond.arrayClass .char ∈ lw_tbl := List.mem_of_getElem? (i := 150) (by decide +kernel)
theorem wac_int : Cond.arrayClass .int ∈ lw_tbl := List.mem_of_getElem? (i := 179) (by decide +kernel)
theorem wao_X8 : Cond.arrayOver (.object "RopeWords$Standing") ∈ lw_tbl := List.mem_of_getElem? (i := 187) (by decide +kernel)
theorem wao_X4 : Cond.arrayOver (.object "RopeWords$Image") ∈ lw_tbl := List.mem_of_getElem? (i := 201) (by decide +kernel)
theorem wao_II : Cond.arrayOver (.array .int) ∈ lw_tbl := List.mem_of_getElem? (i := 228) (by decide +kernel)
theorem wac_boolean : Cond.arrayClass .boolean ∈ lw_tbl := List.mem_of_getElem? (i := 985) (by decide +kernel)
theorem wo_inst : Cond.instanceMethod Lib.objectInit ∈ lw_tbl := List.mem_of_getElem? (i := 120) (by decide +kernel)
theorem wo_code : Cond.code Lib.objectInit ⟨#[0xb1]⟩ 1 none ∈ lw_tbl := List.mem_of_getElem? (i := 121) (by decide +kernel)
theorem wa_nat : Cond.native arraycopyName ∈ lw_tbl := List.mem_of_getElem? (i := 536) (by decide +kernel)
theorem wa_st : Cond.static arraycopyName ∈ lw_tbl := List.mem_of_getElem? (i := 535) (by decide +kernel)
