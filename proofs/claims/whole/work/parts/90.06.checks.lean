/-- a method: its name, its bytes, its locals, what it answers, its class, its exception table -/
abbrev AM : Type := MethodName × ByteArray × Nat × Option FieldType × String × List (Nat × Nat × Nat × Nat)
noncomputable def a_ms_0 : List AM := [(yX0_init, cX0_init, 1, none, RX0, []), (yX0_forget, cX0_forget, 1, none, RX0, []), (yX0_find, cX0_find, 5, none, RX0, []), (yX0_findCuts, cX0_findCuts, 5, none, RX0, []), (yX0_standIn, cX0_standIn, 9, none, RX0, []), (yX0_goOn, cX0_goOn, 3, none, RX0, []), (yX0_cellShift, cX0_cellShift, 1, (some .int), RX0, []), (yX0_leastCost, cX0_leastCost, 1, (some .int), RX0, []), (yX0_cellFor, cX0_cellFor, 3, (some .int), RX0, []), (yX1_init, cX1_init, 1, none, RX1, []), (yX1_forget, cX1_forget, 1, none, RX1, []), (yX1_read, cX1_read, 3, (some .boolean), RX1, []), (yX1_readLine, cX1_readLine, 4, (some .boolean), RX1, []), (yX1_fittingDays, cX1_fittingDays, 4, (some .int), RX1, []), (yX1_fitsOn, cX1_fitsOn, 4, (some .boolean), RX1, []), (yX2_init, cX2_init, 1, none, RX2, []), (yX2_forget, cX2_forget, 1, none, RX2, []), (yX2_find, cX2_find, 5, none, RX2, []), (yX2_leastTime, cX2_leastTime, 5, (some .int), RX2, []), (yX2_findsRoom, cX2_findsRoom, 6, (some .boolean), RX2, []), (yX2_isFirstSuch, cX2_isFirstSuch, 3, (some .boolean), RX2, []), (yX3_init, cX3_init, 1, none, RX3, []), (yX3_forget, cX3_forget, 1, none, RX3, []), (yX3_putUsual, cX3_putUsual, 1, none, RX3, []), (yX3_read, cX3_read, 2, (some .boolean), RX3, []), (yX3_putDraft, cX3_putDraft, 2, none, RX3, []), (yX3_emit, cX3_emit, 2, (some .boolean), RX3, []), (yX3_readSum, cX3_readSum, 5, (some .boolean), RX3, []), (yX3_readProduct, cX3_readProduct, 5, (some .boolean), RX3, []), (yX3_readPart, cX3_readPart, 5, (some .boolean), RX3, []), (yX3_tellWagon, cX3_tellWagon, 4, none, RX3, []), (yX3_tellPlace, cX3_tellPlace, 6, none, RX3, []), (yX3_hoursFor, cX3_hoursFor, 10, (some .int), RX3, []), (yX3_outcome, cX3_outcome, 4, (some .int), RX3, []), (yX3_join, cX3_join, 3, (some .int), RX3, []), (yX4_init, cX4_init, 1, none, RX4, []), (yX4_readWell, cX4_readWell, 3, (some .boolean), RX4, []), (yX4_daysTo, cX4_daysTo, 5, (some .int), RX4, []), (yX4_fewestTo, cX4_fewestTo, 9, (some .int), RX4, []), (yX4_daysFor, cX4_daysFor, 3, (some .int), RX4, []), (yX4_daysToOvertake, cX4_daysToOvertake, 7, (some .int), RX4, []), (yX5_init, cX5_init, 1, none, RX5, []), (yX5_forget, cX5_forget, 1, none, RX5, []), (yX5_find, cX5_find, 4, none, RX5, []), (yX5_leastOf, cX5_leastOf, 10, (some .long), RX5, []), (yX5_placeShift, cX5_placeShift, 1, (some .int), RX5, []), (yX5_sum, cX5_sum, 1, (some .int), RX5, []), (yX5_wagonAt, cX5_wagonAt, 2, (some .int), RX5, []), (yX6_init, cX6_init, 1, none, RX6, []), (yX6_play, cX6_play, 9, none, RX6, []), (yX6_layFirst, cX6_layFirst, 6, none, RX6, []), (yX7_init, cX7_init, 1, none, RX7, []), (yX7_read, cX7_read, 5, (some .boolean), RX7, []), (yX7_readStep, cX7_readStep, 4, (some .boolean), RX7, []), (yX7_readLay, cX7_readLay, 4, (some .boolean), RX7, []), (yX7_readAgain, cX7_readAgain, 2, (some .boolean), RX7, []), (yX7_closeLoop, cX7_closeLoop, 2, (some .boolean), RX7, []), (yX7_add, cX7_add, 4, (some .boolean), RX7, []), (yX7_run, cX7_run, 7, none, RX7, []), (yX7_startLoop, cX7_startLoop, 2, (some .int), RX7, [])]
noncomputable def a_ms_1 : List AM := [(yX7_endTurn, cX7_endTurn, 2, (some .int), RX7, []), (yX7_doStep, cX7_doStep, 7, (some .boolean), RX7, []), (yX8_init, cX8_init, 1, none, RX8, []), (yX8_put, cX8_put, 3, none, RX8, []), (yX8_open, cX8_open, 2, none, RX8, []), (yX8_faultAnswer, cX8_faultAnswer, 1, (some .int), RX8, []), (yX8_fail, cX8_fail, 2, (some .boolean), RX8, []), (yX8_more, cX8_more, 1, (some .boolean), RX8, []), (yX8_peek, cX8_peek, 1, (some .int), RX8, []), (yX8_takes, cX8_takes, 2, (some .boolean), RX8, []), (yX8_sign, cX8_sign, 2, (some .boolean), RX8, []), (yX8_number, cX8_number, 3, (some .boolean), RX8, []), (yX8_word, cX8_word, 5, (some .int), RX8, []), (yX8_isWord, cX8_isWord, 5, (some .boolean), RX8, []), (yX8_isDigit, cX8_isDigit, 1, (some .boolean), RX8, []), (yX9_init, cX9_init, 1, none, RX9, []), (yX9_copy, cX9_copy, 2, none, RX9, []), (yX9_laidCount, cX9_laidCount, 1, (some .int), RX9, []), (yX9_leftCount, cX9_leftCount, 3, (some .int), RX9, []), (yX9_placeOf, cX9_placeOf, 2, (some .int), RX9, []), (yX9_milesBehind, cX9_milesBehind, 2, (some .int), RX9, []), (yX9_isLaidIn, cX9_isLaidIn, 2, (some .boolean), RX9, []), (yX9_hoursIn, cX9_hoursIn, 6, (some .int), RX9, []), (yX9_hoursToLay, cX9_hoursToLay, 6, (some .int), RX9, []), (yX9_isReady, cX9_isReady, 3, (some .boolean), RX9, []), (yX9_put, cX9_put, 4, none, RX9, []), (yX9_takeUp, cX9_takeUp, 5, (some .boolean), RX9, []), (yX9_isNeeded, cX9_isNeeded, 4, (some .boolean), RX9, []), (yX9_fetchBack, cX9_fetchBack, 3, (some .boolean), RX9, []), (yX9_endDay, cX9_endDay, 3, (some .boolean), RX9, []), (yX9_kindsNow, cX9_kindsNow, 6, (some .long), RX9, []), (yX9_kindNoted, cX9_kindNoted, 3, (some .int), RX9, []), (yX9_mostAlike, cX9_mostAlike, 7, (some .int), RX9, []), (yX9_tiesFrom, cX9_tiesFrom, 6, (some .int), RX9, []), (yX10_init, cX10_init, 1, none, RX10, []), (yX10_clear, cX10_clear, 1, none, RX10, []), (yX10_read, cX10_read, 4, (some .boolean), RX10, []), (yX10_readClause, cX10_readClause, 3, (some .boolean), RX10, []), (yX10_readWagon, cX10_readWagon, 2, (some .boolean), RX10, []), (yX10_readTie, cX10_readTie, 4, (some .boolean), RX10, []), (yX10_readNeeds, cX10_readNeeds, 3, (some .boolean), RX10, []), (yX10_readGround, cX10_readGround, 3, (some .boolean), RX10, []), (yX10_readHours, cX10_readHours, 2, (some .boolean), RX10, []), (yX10_readSpeed, cX10_readSpeed, 2, (some .boolean), RX10, []), (yX10_readFrost, cX10_readFrost, 2, (some .boolean), RX10, []), (yX10_readGang, cX10_readGang, 2, (some .boolean), RX10, []), (yX10_readVoter, cX10_readVoter, 5, (some .boolean), RX10, []), (yX10_tieOf, cX10_tieOf, 3, (some .int), RX10, []), (yX10_likers, cX10_likers, 5, (some .int), RX10, []), (yX10_voteWinner, cX10_voteWinner, 3, (some .int), RX10, []), (yX10_agendaWinner, cX10_agendaWinner, 5, (some .int), RX10, []), (yX11_init, cX11_init, 1, none, RX11, []), (yX11_feed, cX11_feed, 6, (some .int), RX11, []), (yX11_train, cX11_train, 3, (some .int), RX11, []), (yX11_law, cX11_law, 2, (some .int), RX11, []), (yX11_work, cX11_work, 3, (some .int), RX11, []), (yX11_book, cX11_book, 2, (some .int), RX11, []), (yX11_fault, cX11_fault, 1, (some .int), RX11, []), (yX11_undo, cX11_undo, 1, (some .int), RX11, []), (yX11_told, cX11_told, 2, (some .int), RX11, [])]
noncomputable def a_ms_2 : List AM := [(yX11_wagon, cX11_wagon, 3, (some .int), RX11, []), (yX11_stands, cX11_stands, 2, (some .int), RX11, []), (yX11_ground, cX11_ground, 2, (some .int), RX11, []), (yX11_tie, cX11_tie, 3, (some .int), RX11, []), (yX11_lasts, cX11_lasts, 3, (some .int), RX11, []), (yX11_would, cX11_would, 7, (some .int), RX11, []), (yX11_can, cX11_can, 3, (some .boolean), RX11, []), (yX11_cost, cX11_cost, 5, (some .int), RX11, []), (yX11_ties, cX11_ties, 3, (some .int), RX11, []), (yX11_best, cX11_best, 2, (some .int), RX11, []), (yX11_bestAt, cX11_bestAt, 3, (some .int), RX11, []), (yX11_rather, cX11_rather, 7, (some .int), RX11, []), (yX11_load, cX11_load, 1, (some .int), RX11, []), (yX11_loaded, cX11_loaded, 2, (some .int), RX11, []), (yX11_shunts, cX11_shunts, 4, (some .int), RX11, []), (yX11_crew, cX11_crew, 2, (some .int), RX11, []), (yX11_crewOf, cX11_crewOf, 3, (some .int), RX11, []), (yX11_behind, cX11_behind, 2, (some .int), RX11, []), (yX11_overtakes, cX11_overtakes, 4, (some .int), RX11, []), (yX11_way, cX11_way, 3, (some .int), RX11, []), (yX11_water, cX11_water, 3, (some .int), RX11, []), (yX11_prefer, cX11_prefer, 3, (some .int), RX11, []), (yX11_wins, cX11_wins, 4, (some .int), RX11, []), (yX11_agendas, cX11_agendas, 6, (some .int), RX11, []), (yX11_beats, cX11_beats, 4, (some .int), RX11, []), (yX11_fits, cX11_fits, 1, (some .int), RX11, []), (yX11_look, cX11_look, 7, (some .int), RX11, []), (yX11_stood, cX11_stood, 3, (some .int), RX11, []), (yX11_mild, cX11_mild, 8, (some .long), RX11, []), (yX11_ahead, cX11_ahead, 10, (some .long), RX11, []), (yX11_season, cX11_season, 4, (some .int), RX11, []), (yX11_span, cX11_span, 12, (some .int), RX11, []), (yX11_image, cX11_image, 1, (some .int), RX11, []), (yX11_restore, cX11_restore, 2, (some .int), RX11, []), (yX11_status, cX11_status, 2, (some .int), RX11, []), (yX11_count, cX11_count, 2, (some .int), RX11, []), (yX11_seedsDiffer, cX11_seedsDiffer, 1, (some .boolean), RX11, []), (yX11_openText, cX11_openText, 3, none, RX11, []), (yX11_forgetImages, cX11_forgetImages, 2, none, RX11, []), (yX11_needRange, cX11_needRange, 4, none, RX11, []), (yX11_needCell, cX11_needCell, 2, none, RX11, []), (yX11_needBits, cX11_needBits, 2, none, RX11, []), (yX11_needFew, cX11_needFew, 2, none, RX11, []), (yX11_needTwoPlans, cX11_needTwoPlans, 3, none, RX11, []), (yX11_needWagon, cX11_needWagon, 2, none, RX11, []), (yX11_leastTerms, cX11_leastTerms, 12, (some .long), RX11, []), (yX12_thrown, cX12_thrown, 1, (some .int), RX12, []), (yX12_may, cX12_may, 4, (some .boolean), RX12, []), (yX12_within, cX12_within, 3, (some .boolean), RX12, []), (yX12_init, cX12_init, 1, none, RX12, []), (yX12_feed, cX12_feed, 8, (some .int), RX12, []), (yX12_fine, cX12_fine, 1, (some .boolean), RX12, []), (yX12_wrong, cX12_wrong, 3, none, RX12, []), (yX12_here, cX12_here, 1, (some .int), RX12, []), (yX12_isSmall, cX12_isSmall, 1, (some .boolean), RX12, []), (yX12_isDigit, cX12_isDigit, 1, (some .boolean), RX12, []), (yX12_word, cX12_word, 4, (some .int), RX12, []), (yX12_of, cX12_of, 3, (some .int), RX12, []), (yX12_pass, cX12_pass, 1, none, RX12, []), (yX12_readNumber, cX12_readNumber, 6, (some .int), RX12, [])]
noncomputable def a_ms_3 : List AM := [(yX12_sign, cX12_sign, 2, none, RX12, []), (yX12_isMore, cX12_isMore, 1, (some .boolean), RX12, []), (yX12_begins, cX12_begins, 2, none, RX12, []), (yX12_result, cX12_result, 2, (some .int), RX12, []), (yX12_fault, cX12_fault, 1, (some .int), RX12, []), (yX12_clears, cX12_clears, 2, none, RX12, []), (yX12_copies, cX12_copies, 5, none, RX12, []), (yX12_sets, cX12_sets, 2, none, RX12, []), (yX12_readWagon, cX12_readWagon, 2, none, RX12, []), (yX12_readTie, cX12_readTie, 5, none, RX12, []), (yX12_readVoter, cX12_readVoter, 6, none, RX12, []), (yX12_readRow, cX12_readRow, 4, none, RX12, []), (yX12_isRow, cX12_isRow, 1, (some .boolean), RX12, []), (yX12_isFull, cX12_isFull, 2, (some .boolean), RX12, []), (yX12_train, cX12_train, 4, (some .int), RX12, []), (yX12_emit, cX12_emit, 3, none, RX12, []), (yX12_opensOne, cX12_opensOne, 2, none, RX12, []), (yX12_readSum, cX12_readSum, 2, none, RX12, []), (yX12_readProduct, cX12_readProduct, 2, none, RX12, []), (yX12_readTwo, cX12_readTwo, 3, none, RX12, []), (yX12_factHere, cX12_factHere, 2, (some .int), RX12, []), (yX12_readUnit, cX12_readUnit, 2, none, RX12, []), (yX12_law, cX12_law, 3, (some .int), RX12, []), (yX12_valueNow, cX12_valueNow, 4, (some .int), RX12, []), (yX12_both, cX12_both, 3, (some .int), RX12, []), (yX12_lastsNow, cX12_lastsNow, 2, (some .int), RX12, []), (yX12_tellsStep, cX12_tellsStep, 4, none, RX12, []), (yX12_readOne, cX12_readOne, 1, (some .int), RX12, []), (yX12_readStep, cX12_readStep, 4, none, RX12, []), (yX12_work, cX12_work, 4, (some .int), RX12, []), (yX12_goesSteps, cX12_goesSteps, 6, none, RX12, []), (yX12_take, cX12_take, 1, none, RX12, []), (yX12_standing, cX12_standing, 3, (some .int), RX12, []), (yX12_lastsOf, cX12_lastsOf, 3, (some .int), RX12, []), (yX12_canLay, cX12_canLay, 4, (some .boolean), RX12, []), (yX12_laysOne, cX12_laysOne, 3, (some .boolean), RX12, []), (yX12_takesOne, cX12_takesOne, 4, (some .boolean), RX12, []), (yX12_behindOf, cX12_behindOf, 2, (some .int), RX12, []), (yX12_fetchesOne, cX12_fetchesOne, 3, (some .boolean), RX12, []), (yX12_goesNext, cX12_goesNext, 3, (some .boolean), RX12, []), (yX12_goes, cX12_goes, 4, (some .boolean), RX12, []), (yX12_many, cX12_many, 4, (some .int), RX12, []), (yX12_book, cX12_book, 6, (some .int), RX12, []), (yX12_undo, cX12_undo, 2, (some .int), RX12, []), (yX12_told, cX12_told, 2, (some .int), RX12, []), (yX12_isWagon, cX12_isWagon, 3, (some .boolean), RX12, []), (yX12_isCell, cX12_isCell, 1, (some .boolean), RX12, []), (yX12_wagon, cX12_wagon, 3, (some .int), RX12, []), (yX12_stands, cX12_stands, 2, (some .int), RX12, []), (yX12_ground, cX12_ground, 2, (some .int), RX12, []), (yX12_tie, cX12_tie, 3, (some .int), RX12, []), (yX12_lasts, cX12_lasts, 3, (some .int), RX12, []), (yX12_would, cX12_would, 7, (some .int), RX12, []), (yX12_can, cX12_can, 3, (some .boolean), RX12, []), (yX12_takesCells, cX12_takesCells, 2, none, RX12, []), (yX12_tiesOf, cX12_tiesOf, 4, (some .int), RX12, []), (yX12_costNow, cX12_costNow, 4, (some .int), RX12, []), (yX12_cost, cX12_cost, 1, (some .int), RX12, []), (yX12_ties, cX12_ties, 2, (some .int), RX12, []), (yX12_townsOn, cX12_townsOn, 6, none, RX12, [])]
noncomputable def a_ms_4 : List AM := [(yX12_findBest, cX12_findBest, 5, (some .boolean), RX12, []), (yX12_best, cX12_best, 2, (some .int), RX12, []), (yX12_bestAt, cX12_bestAt, 3, (some .int), RX12, []), (yX12_rather, cX12_rather, 5, (some .int), RX12, []), (yX12_mayFollow, cX12_mayFollow, 3, (some .boolean), RX12, []), (yX12_ones, cX12_ones, 4, (some .int), RX12, []), (yX12_findLoad, cX12_findLoad, 6, none, RX12, []), (yX12_load, cX12_load, 1, (some .int), RX12, []), (yX12_loaded, cX12_loaded, 2, (some .int), RX12, []), (yX12_shunts, cX12_shunts, 4, (some .int), RX12, []), (yX12_crewsOn, cX12_crewsOn, 6, none, RX12, []), (yX12_findCrew, cX12_findCrew, 4, (some .boolean), RX12, []), (yX12_crew, cX12_crew, 2, (some .int), RX12, []), (yX12_crewOf, cX12_crewOf, 3, (some .int), RX12, []), (yX12_behind, cX12_behind, 2, (some .int), RX12, []), (yX12_overtakes, cX12_overtakes, 6, (some .int), RX12, []), (yX12_isWell, cX12_isWell, 3, (some .boolean), RX12, []), (yX12_wayOf, cX12_wayOf, 8, (some .int), RX12, []), (yX12_way, cX12_way, 3, (some .int), RX12, []), (yX12_water, cX12_water, 3, (some .int), RX12, []), (yX12_likes, cX12_likes, 5, (some .boolean), RX12, []), (yX12_liking, cX12_liking, 5, (some .int), RX12, []), (yX12_voted, cX12_voted, 3, (some .int), RX12, []), (yX12_winsBy, cX12_winsBy, 7, (some .int), RX12, []), (yX12_isPlan, cX12_isPlan, 1, (some .boolean), RX12, []), (yX12_prefer, cX12_prefer, 3, (some .int), RX12, []), (yX12_wins, cX12_wins, 4, (some .int), RX12, []), (yX12_agendas, cX12_agendas, 5, (some .int), RX12, []), (yX12_beats, cX12_beats, 4, (some .int), RX12, []), (yX12_notedIn, cX12_notedIn, 3, (some .int), RX12, []), (yX12_fitsNow, cX12_fitsNow, 5, (some .int), RX12, []), (yX12_fits, cX12_fits, 1, (some .int), RX12, []), (yX12_worstAt, cX12_worstAt, 6, (some .int), RX12, []), (yX12_look, cX12_look, 7, (some .int), RX12, []), (yX12_stood, cX12_stood, 3, (some .int), RX12, []), (yX12_least, cX12_least, 11, (some .long), RX12, []), (yX12_power, cX12_power, 6, (some .long), RX12, []), (yX12_mild, cX12_mild, 3, (some .long), RX12, []), (yX12_ahead, cX12_ahead, 6, (some .long), RX12, []), (yX12_draws, cX12_draws, 1, (some .int), RX12, []), (yX12_goesOn, cX12_goesOn, 7, none, RX12, []), (yX12_season, cX12_season, 4, (some .int), RX12, []), (yX12_span, cX12_span, 11, (some .int), RX12, []), (yX12_keepsRow, cX12_keepsRow, 6, (some .int), RX12, []), (yX12_keepsAll, cX12_keepsAll, 4, none, RX12, []), (yX12_image, cX12_image, 1, (some .int), RX12, []), (yX12_restore, cX12_restore, 1, (some .int), RX12, []), (yX12_status, cX12_status, 2, (some .int), RX12, []), (yX12_count, cX12_count, 2, (some .int), RX12, []), (yJ6_bitCount_0f7a4, cJ6_bitCount_0f7a4, 1, (some .int), RJ6, []), (yJ7_fill_d0a16, cJ7_fill_d0a16, 5, none, RJ7, []), (yJ7_fill_53178, cJ7_fill_53178, 4, none, RJ7, []), (yL_train, cL_train, 4, (some .int), RL, [(0, 9, 12, 13)]), (yL_law, cL_law, 4, (some .int), RL, [(0, 9, 12, 13)]), (yL_work, cL_work, 4, (some .int), RL, [(0, 9, 12, 13)]), (yL_book, cL_book, 4, (some .int), RL, [(0, 9, 12, 13)]), (yL_told, cL_told, 4, (some .int), RL, [(0, 9, 12, 13)]), (yL_wagon, cL_wagon, 5, (some .int), RL, [(0, 10, 13, 31), (0, 10, 17, 13)]), (yL_stands, cL_stands, 4, (some .int), RL, [(0, 9, 12, 13)]), (yL_ground, cL_ground, 4, (some .int), RL, [(0, 9, 12, 13)])]
noncomputable def a_ms_5 : List AM := [(yL_tie, cL_tie, 5, (some .int), RL, [(0, 10, 13, 31)]), (yL_lasts, cL_lasts, 5, (some .int), RL, [(0, 10, 13, 31), (0, 10, 17, 13)]), (yL_would, cL_would, 9, (some .int), RL, [(0, 18, 21, 13)]), (yL_can, cL_can, 5, (some .int), RL, [(0, 17, 20, 31), (0, 17, 24, 13)]), (yL_ties, cL_ties, 4, (some .int), RL, [(0, 9, 12, 31)]), (yL_best, cL_best, 4, (some .int), RL, [(0, 9, 12, 13)]), (yL_bestAt, cL_bestAt, 5, (some .int), RL, [(0, 10, 13, 31), (0, 10, 17, 13)]), (yL_rather, cL_rather, 4, (some .int), RL, [(0, 9, 12, 31)]), (yL_loaded, cL_loaded, 4, (some .int), RL, [(0, 9, 12, 13)]), (yL_crew, cL_crew, 4, (some .int), RL, [(0, 9, 12, 13)]), (yL_crewOf, cL_crewOf, 5, (some .int), RL, [(0, 10, 13, 31), (0, 10, 17, 13)]), (yL_behind, cL_behind, 4, (some .int), RL, [(0, 9, 12, 31)]), (yL_overtakes, cL_overtakes, 6, (some .int), RL, [(0, 12, 15, 13)]), (yL_way, cL_way, 5, (some .int), RL, [(0, 10, 13, 13)]), (yL_water, cL_water, 4, (some .int), RL, [(0, 9, 12, 13)]), (yL_prefer, cL_prefer, 5, (some .int), RL, [(0, 10, 13, 13)]), (yL_wins, cL_wins, 6, (some .int), RL, [(0, 12, 15, 13)]), (yL_agendas, cL_agendas, 5, (some .int), RL, [(0, 10, 13, 13)]), (yL_look, cL_look, 4, (some .int), RL, [(0, 9, 12, 13)]), (yL_stood, cL_stood, 5, (some .int), RL, [(0, 10, 13, 13)]), (yL_mild, cL_mild, 5, (some .int), RL, [(0, 9, 12, 13)]), (yL_ahead, cL_ahead, 5, (some .int), RL, [(0, 9, 12, 13)]), (yL_season, cL_season, 6, (some .int), RL, [(0, 12, 15, 13)]), (yL_span, cL_span, 8, (some .int), RL, [(0, 16, 19, 13)]), (x, code, 8, (some .boolean), RL, [])]
noncomputable def a_ms : List AM := a_ms_0 ++ (a_ms_1 ++ (a_ms_2 ++ (a_ms_3 ++ (a_ms_4 ++ (a_ms_5)))))
/-- where its code stands in the tables; where its class is initialized; how many it takes (without the receiver) -/
def a_wps : List (Nat × Nat × Nat) := [(305, 125, 0), (948, 125, 0), (1268, 125, 2), (1272, 125, 1), (1281, 125, 3), (1289, 125, 1), (1284, 125, 1), (1293, 125, 0), (1304, 125, 1), (248, 122, 0), (944, 122, 0), (1135, 122, 1), (1141, 122, 2), (675, 122, 1), (679, 122, 2), (347, 127, 0), (956, 127, 0), (1330, 127, 2), (1334, 127, 2), (1338, 127, 3), (1342, 127, 1), (195, 120, 0), (940, 120, 0), (200, 120, 0), (971, 120, 1), (208, 120, 0), (204, 120, 1), (975, 120, 2), (979, 120, 2), (983, 120, 2), (1080, 120, 3), (1084, 120, 5), (1076, 120, 6), (1088, 120, 0), (1091, 120, 3), (449, 131, 0), (918, 131, 1), (1378, 131, 3), (1382, 131, 4), (1385, 131, 2), (1367, 131, 4), (331, 126, 0), (952, 126, 0), (629, 126, 1), (633, 126, 2), (643, 126, 1), (650, 126, 0), (658, 126, 1), (368, 128, 0), (1477, 128, 5), (1483, 128, 3), (269, 124, 0), (1003, 124, 2), (1018, 124, 2), (1024, 124, 2), (1029, 124, 1), (1008, 124, 0), (1012, 124, 3), (1039, 124, 3), (1048, 124, 1), (1044, 124, 1), (1052, 124, 4), (156, 119, 0), (598, 119, 1), (790, 119, 1), (936, 119, 0), (865, 119, 1), (803, 119, 0), (882, 119, 0), (932, 119, 1), (928, 119, 1), (878, 119, 2), (808, 119, 1), (861, 119, 3), (885, 119, 1), (374, 129, 0), (1034, 129, 1), (1155, 129, 0), (1160, 129, 0), (1064, 129, 1), (1116, 129, 1), (1072, 129, 1), (1068, 129, 4), (1056, 129, 4), (1060, 129, 2), (1099, 129, 3), (1103, 129, 2), (1108, 129, 2), (1112, 129, 1), (1120, 129, 1), (1124, 129, 1), (683, 129, 2), (1439, 129, 2), (614, 129, 3), (443, 130, 0), (798, 130, 0), (794, 130, 1), (870, 130, 2), (874, 130, 1), (890, 130, 1), (894, 130, 1), (898, 130, 1), (902, 130, 1), (906, 130, 1), (924, 130, 1), (910, 130, 1), (914, 130, 1), (618, 130, 2), (667, 130, 2), (1420, 130, 2), (1416, 130, 3), (148, 118, 0), (594, 118, 5), (708, 118, 1), (967, 118, 1), (999, 118, 1), (1131, 118, 1), (602, 118, 0), (606, 118, 0), (1151, 118, 1), (1168, 118, 2), (1196, 118, 1), (1207, 118, 1), (1214, 118, 2), (1222, 118, 2), (1230, 118, 6), (1240, 118, 2), (610, 118, 0), (1248, 118, 1), (1255, 118, 1), (1300, 118, 2), (1312, 118, 1), (625, 118, 0), (1319, 118, 1), (654, 118, 0), (1326, 118, 1), (1349, 118, 2), (1356, 118, 1), (1364, 118, 3), (1374, 118, 2), (1393, 118, 1), (1400, 118, 2), (1412, 118, 3), (1428, 118, 2), (663, 118, 0), (671, 118, 0), (1435, 118, 1), (1447, 118, 2), (1455, 118, 2), (1466, 118, 2), (1473, 118, 3), (1495, 118, 5), (688, 118, 0), (692, 118, 0), (696, 118, 1), (700, 118, 1), (1499, 118, 0), (712, 118, 2), (960, 118, 0), (719, 118, 3), (1200, 118, 1), (1263, 118, 1), (1259, 118, 1), (1404, 118, 2), (1172, 118, 1), (1459, 118, 3), (1504, 132, 0), (1770, 132, 3), (1983, 132, 3), (1509, 132, 0), (1758, 132, 5), (1778, 132, 0), (1815, 132, 2), (1786, 132, 0), (1793, 132, 1), (1838, 132, 1), (1790, 132, 0), (1800, 132, 1), (1823, 132, 0), (1835, 132, 2), (1850, 132, 1), (1782, 132, 0), (1774, 132, 1), (1854, 132, 1), (1762, 132, 0), (1514, 132, 0), (1522, 132, 3), (1518, 132, 0), (1831, 132, 0), (1842, 132, 0), (1846, 132, 0), (1827, 132, 1), (1796, 132, 1), (1819, 132, 1), (1766, 132, 1), (1878, 132, 2), (1874, 132, 1), (1862, 132, 0), (1866, 132, 0), (1883, 132, 2), (1888, 132, 0), (1870, 132, 0), (1858, 132, 1), (1953, 132, 0), (1956, 132, 3), (1949, 132, 0), (1910, 132, 3), (1906, 132, 0), (1901, 132, 0), (1897, 132, 1), (1921, 132, 2), (1917, 132, 0), (1933, 132, 1), (1945, 132, 2), (1941, 132, 2), (1937, 132, 2), (1960, 132, 1), (1968, 132, 1), (1964, 132, 1), (1929, 132, 0), (1925, 132, 3), (1987, 132, 1), (1972, 132, 1), (1976, 132, 0), (1980, 132, 1), (1995, 132, 2), (2002, 132, 1), (1991, 132, 2), (1999, 132, 1), (2006, 132, 1), (2010, 132, 2), (2014, 132, 2), (2018, 132, 6), (2022, 132, 2), (2030, 132, 0), (2038, 132, 1), (2034, 132, 0), (2026, 132, 0), (2042, 132, 1), (2055, 132, 4), (2050, 132, 2), (2046, 132, 1), (2059, 132, 2), (2063, 132, 1), (2075, 132, 2), (2079, 132, 1), (2071, 132, 0), (2067, 132, 0), (2083, 132, 1), (2087, 132, 0), (2099, 132, 2), (2095, 132, 2), (2091, 132, 1), (2103, 132, 2), (2107, 132, 1), (2111, 132, 3), (2123, 132, 1), (2119, 132, 2), (2115, 132, 2), (2127, 132, 1), (2142, 132, 3), (2138, 132, 2), (2154, 132, 2), (2150, 132, 3), (2134, 132, 1), (2131, 132, 2), (2146, 132, 3), (2158, 132, 2), (2162, 132, 0), (2174, 132, 2), (2170, 132, 0), (2166, 132, 0), (2182, 132, 2), (2178, 132, 1), (2186, 132, 2), (2197, 132, 3), (2193, 132, 2), (2190, 132, 2), (2201, 132, 2), (2213, 132, 0), (2209, 132, 2), (2205, 132, 3), (2218, 132, 5), (2230, 132, 4), (2226, 132, 2), (2222, 132, 0), (2234, 132, 0), (2238, 132, 1), (2242, 132, 1), (636, 142, 1), (1277, 123, 2), (252, 123, 2), (703, 117, 3), (963, 117, 3), (995, 117, 3), (1127, 117, 3), (1147, 117, 3), (1163, 117, 4), (1192, 117, 3), (1203, 117, 3), (1210, 117, 4), (1218, 117, 4), (1226, 117, 8), (1236, 117, 4), (1244, 117, 3), (1251, 117, 3), (1296, 117, 4), (1308, 117, 3), (1315, 117, 3), (1322, 117, 3), (1345, 117, 4), (1352, 117, 3), (1360, 117, 5), (1370, 117, 4), (1389, 117, 3), (1396, 117, 4), (1408, 117, 5), (1424, 117, 4), (1431, 117, 3), (1443, 117, 4), (1451, 117, 4), (1462, 117, 4), (1469, 117, 5), (1491, 117, 7), (0, 117, 1)]
def a_strs : List (String × Nat × String) := [(RX11, 367, "a number that is out of its range"), (RX10, 80, "wagon tie needs ground hours speed gang voter well frost"), (RX3, 100, "hours weight kind cell ground day near frost least most"), (RX7, 58, "lay take fetch day again"), (RX11, 381, "no such wagon"), (RX11, 377, "one plan instead of two"), (RX12, 248, "wagon"), (RX12, 256, "tie"), (RX12, 260, "voter"), (RX12, 264, "needs"), (RX12, 266, "ground"), (RX12, 267, "gang"), (RX12, 268, "well"), (RX12, 269, "hours"), (RX12, 270, "speed"), (RX12, 271, "frost"), (RX12, 333, "least"), (RX12, 338, "most"), (RX12, 323, "weight"), (RX12, 325, "kind"), (RX12, 327, "cell"), (RX12, 329, "day"), (RX12, 331, "near"), (RX12, 353, "lay"), (RX12, 362, "take"), (RX12, 364, "fetch"), (RX12, 366, "again")]
/-- the good words of the tables -/
noncomputable def a_Ts : List Cond := lw_tbl.filter goodWord
theorem a_Ts_in {w : Cond} (h : w ∈ a_Ts) : w ∈ lw_tbl := (List.mem_filter.mp h).1
theorem a_Ts_ok : ∀ ws : List Cond, (∀ w ∈ ws, w ∈ a_Ts) → GoodIn a_Ts ws := fun ws h w hw => ⟨h w hw, good_of_word (List.mem_filter.mp (h w hw)).2⟩
/-- a word stands there, and is a good one -/
noncomputable def o_w (j : Nat) (w : Cond) : Bool := decide (lw_tbl[j]? = some w) && goodWord w
theorem o_w_in {j : Nat} {w : Cond} (h : o_w j w = true) : w ∈ a_Ts := by
  simp only [o_w, Bool.and_eq_true, decide_eq_true_eq] at h
  exact List.mem_filter.mpr ⟨List.mem_of_getElem? h.1, h.2⟩
/-- a word stands there -/
noncomputable def o_b (j : Nat) (w : Cond) : Bool := decide (lw_tbl[j]? = some w)
theorem o_b_in {j : Nat} {w : Cond} (h : o_b j w = true) : w ∈ lw_tbl := List.mem_of_getElem? (of_decide_eq_true h)
def o_pc (cd : List AI) (o q : Nat) : Bool := match cd[o]? with
  | some e => decide (e.1 = q)
  | none => false
def o_tg (cd : List AI) (t : Nat) (q : Int) : Bool := match cd[t]? with
  | some e => decide (q = (e.1 : Int))
  | none => false
/-- so long, and the next one stands behind it -/
def o_n (n : Nat) (cd : List AI) (o : Nat) (e : AI) : Bool := decide (e.2.2.1 = n) && o_pc cd (o + 1) (e.1 + n)
/-- a jump of 3 bytes to place t -/
def o_j (off : Int) (cd : List AI) (e : AI) : Bool := decide (e.2.2.1 = 3) && match e.2.2.2 with
  | [t] => o_tg cd t ((e.1 : Int) + off)
  | _ => false
def o_tgs (cd : List AI) (pc : Nat) : List Nat → List Int → Bool
  | t :: ts, q :: qs => o_tg cd t ((pc : Int) + q) && o_tgs cd pc ts qs
  | [], [] => true
  | _, _ => false
noncomputable def o_fl (own : String) (idx : Nat) (ps : List Nat) : Bool := match ps with
  | [kd, ci, k, j] => match a_cl[ci]? with
    | some q => decide (ci < 13) && decide (k < q.2.2) && (if kd = 1 then o_b j (.fieldLinkNest own idx (q.2.1 k).1 (q.2.1 k).2.1 (q.2.1 k).2.2.1 "TownTrain") else o_w j (.fieldLink own idx (q.2.1 k).1 (q.2.1 k).2.1 (q.2.1 k).2.2.1))
    | none => false
  | _ => false
def o_fin (own : String) (init : Bool) (ps : List Nat) : Bool := match ps with
  | [kd, ci, k, _] => match a_cl[ci]? with
    | some q => if kd = 2 then decide ((q.2.1 k).2.2.2 = true) && init && decide ((q.2.1 k).1 = own) else decide ((q.2.1 k).2.2.2 = false)
    | none => false
  | _ => false
/-- a method's name, bytes .. by its number; whether its words stand -/
noncomputable def o_m (mj n : Nat) : Option AM := match a_ms[mj]?, a_wps[mj]? with
  | some q, some w => if w.2.2 = n ∧ mj < 324 then some q else none
  | _, _ => none
noncomputable def o_iv (own : String) (idx : Nat) (ps : List Nat) : Bool := match ps with
  | 0 :: mj :: n :: ci :: j1 :: j2 :: j3 :: [] => match o_m mj n, a_cl[ci]? with
    | some q, some c => decide (q.2.2.2.2.2 = []) && decide (q.1.cls = c.1) && o_w j1 (.methodLink own idx q.1) && o_w j2 (.instanceMethod q.1) && o_w j3 (.selects c.1 q.1 q.1)
    | _, _ => false
  | [1, j] => o_w j (.methodLink own idx yJ0_length_8abf5)
  | [2, j] => o_w j (.methodLink own idx yJ0_charAt_5068e)
  | _ => false
noncomputable def o_is (own : String) (idx : Nat) (ps : List Nat) : Bool := match ps with
  | 0 :: mj :: n :: j1 :: j2 :: [] => match o_m mj n with
    | some q => decide (q.2.2.2.2.2 = []) && o_w j1 (.methodLink own idx q.1) && o_w j2 (.static q.1)
    | none => false
  | 3 :: mj :: n :: j1 :: j2 :: [] => match o_m mj n with
    | some q => decide (q.2.2.2.2.2 ≠ []) && o_w j1 (.methodLink own idx q.1) && o_w j2 (.static q.1)
    | none => false
  | [1, j] => o_w j (.methodLink own idx arraycopyName)
  | [2, j] => o_w j (.methodLink own idx arraycopyName)
  | [4, j] => o_w j (.methodLink own idx Lib.Math.min.name)
  | [5, j] => o_w j (.methodLink own idx Lib.Math.max.name)
  | [6, j] => o_w j (.methodLink own idx Lib.Math.abs.name)
  | [7, j] => o_w j (.methodLink own idx Lib.MathLoose.min_long.x)
  | _ => false
noncomputable def o_ii (own : String) (idx : Nat) (ps : List Nat) : Bool := match ps with
  | 0 :: mj :: n :: j1 :: j2 :: [] => match o_m mj n with
    | some q => decide (q.2.2.2.2.2 = []) && decide (q.1.name = "<init>") && decide (q.2.2.2.1 = none) && o_w j1 (.methodLink own idx q.1) && o_w j2 (.instanceMethod q.1)
    | none => false
  | 1 :: mj :: n :: j1 :: j2 :: [] => match o_m mj n with
    | some q => decide (q.2.2.2.2.2 = []) && decide (q.1.name = "<init>") && decide (q.2.2.2.1 = none) && o_b j1 (.methodLinkNest own idx q.1 "TownTrain") && o_w j2 (.instanceMethod q.1)
    | none => false
  | [2, j] => o_w j (.methodLink own idx objectInit)
  | _ => false
noncomputable def o_new (own : String) (cc : ByteArray) (idx : Nat) (cd : List AI) (o : Nat) (e : AI) : Bool := match e.2.2.2 with
  | 0 :: ci :: j1 :: j2 :: j3 :: [] => match a_cl[ci]? with
    | some q => decide (ci < 13) && o_n 3 cd o e && o_w j1 (.classLink own idx q.1) && o_w j2 (.instantiable q.1 q.2.2) && o_w j3 (.initialized q.1)
    | none => false
  | 1 :: k :: si :: j1 :: j2 :: [] => match a_cl[13 + k]?, a_strs[si]? with
    | some q, some t => decide (e.2.2.1 = 3) && decide (k < 2) && decide (own = RX11) && decide (t.1 = RX11) && o_w j1 (.classLink own idx q.1) && o_w j2 (.initialized q.1) && decide (decode cc (e.1 + 3) = .ok (.dup, 1)) && decide (decode cc (e.1 + 4) = .ok (.ldc_w t.2.1, 3)) && decide (decode cc (e.1 + 7) = .ok (.invokespecial (if k = 0 then 369 else 383), 3)) && decide (decode cc (e.1 + 10) = .ok (.athrow, 1))
    | _, _ => false
  | _ => false
/-- an instruction of a method stands in its bytes as in our row, and what it links to in the tables -/
noncomputable def o_ok (own : String) (cc : ByteArray) (ret : Option FieldType) (init : Bool) (cd : List AI) (o : Nat) (e : AI) : Bool := decide (decode cc e.1 = .ok (e.2.1, e.2.2.1)) && match e.2.1 with
  | .aload_n _ => o_n 1 cd o e
  | .iload_n _ => o_n 1 cd o e
  | .lload_n _ => o_n 1 cd o e
  | .istore_n _ => o_n 1 cd o e
  | .lstore_n _ => o_n 1 cd o e
  | .astore_n _ => o_n 1 cd o e
  | .aload _ => o_n 2 cd o e
  | .iload _ => o_n 2 cd o e
  | .lload _ => o_n 2 cd o e
  | .istore _ => o_n 2 cd o e
  | .lstore _ => o_n 2 cd o e
  | .astore _ => o_n 2 cd o e
  | .iinc _ _ => o_n 3 cd o e
  | .iconst _ => o_n 1 cd o e
  | .bipush _ => o_n 2 cd o e
  | .sipush _ => o_n 3 cd o e
  | .lconst _ => o_n 1 cd o e
  | .ldc idx => o_n 2 cd o e && match e.2.2.2 with
    | [0, v, j] => o_w j (.constant own idx (Int32.ofNat v))
    | [1, q] => match a_strs[q]? with
      | some t => decide (t.1 = own) && decide (t.2.1 = idx) && decide (q < 27)
      | none => false
    | _ => false
  | .ldc_w idx => o_n 3 cd o e && match e.2.2.2 with
    | [0, v, j] => o_w j (.constant own idx (Int32.ofNat v))
    | [1, q] => match a_strs[q]? with
      | some t => decide (t.1 = own) && decide (t.2.1 = idx) && decide (q < 27)
      | none => false
    | _ => false
  | .ldc2_w idx => o_n 3 cd o e && match e.2.2.2 with
    | [v, j] => o_w j (.constantLong own idx (Int64.ofNat v))
    | _ => false
  | .aconst_null => o_n 1 cd o e
  | .iadd => o_n 1 cd o e
  | .isub => o_n 1 cd o e
  | .imul => o_n 1 cd o e
  | .iand => o_n 1 cd o e
  | .ior => o_n 1 cd o e
  | .ixor => o_n 1 cd o e
  | .ishl => o_n 1 cd o e
  | .ishr => o_n 1 cd o e
  | .iushr => o_n 1 cd o e
  | .idiv => o_n 1 cd o e
  | .irem => o_n 1 cd o e
  | .ineg => o_n 1 cd o e
  | .ladd => o_n 1 cd o e
  | .lmul => o_n 1 cd o e
  | .land => o_n 1 cd o e
  | .lor => o_n 1 cd o e
  | .ldiv => o_n 1 cd o e
  | .lrem => o_n 1 cd o e
  | .lshl => o_n 1 cd o e
  | .lshr => o_n 1 cd o e
  | .lcmp => o_n 1 cd o e
  | .i2l => o_n 1 cd o e
  | .l2i => o_n 1 cd o e
  | .dup => o_n 1 cd o e
  | .pop => o_n 1 cd o e
  | .dup2 => o_n 1 cd o e
  | .goto off => o_j off cd e
  | .ifCond _ off => o_j off cd e && o_n 3 cd o e
  | .if_icmp _ off => o_j off cd e && o_n 3 cd o e
  | .ifnull off => o_j off cd e && o_n 3 cd o e
  | .ifnonnull off => o_j off cd e && o_n 3 cd o e
  | .tableswitch d lo hi offs => (match e.2.2.2 with
    | t :: ts => o_tg cd t ((e.1 : Int) + d) && o_tgs cd e.1 ts offs.toList
    | [] => false)
  | .lookupswitch d prs => (match e.2.2.2 with
    | t :: ts => o_tg cd t ((e.1 : Int) + d) && o_tgs cd e.1 ts (prs.toList.map (fun z => z.2)) && (prs.toList.zip (prs.toList.drop 1)).all (fun (a, next) => a.1 < next.1)
    | [] => false)
  | .getfield idx => o_n 3 cd o e && o_fl own idx e.2.2.2
  | .putfield idx => o_n 3 cd o e && o_fl own idx e.2.2.2 && o_fin own init e.2.2.2
  | .iaload => o_n 1 cd o e
  | .laload => o_n 1 cd o e
  | .aaload => o_n 1 cd o e
  | .iastore => o_n 1 cd o e
  | .lastore => o_n 1 cd o e
  | .aastore => o_n 1 cd o e
  | .arraylength => o_n 1 cd o e
  | .newarray t => o_n 2 cd o e && (match e.2.2.2 with
    | [0, j] => decide (t = .int) && o_w j (.arrayClass .int)
    | [1, j] => decide (t = .long) && o_w j (.arrayClass .long)
    | _ => false)
  | .anewarray idx => o_n 3 cd o e && (match e.2.2.2 with
    | [j1, j2] => o_w j1 (.classLink own idx RX9) && o_b j2 (.arrayOver (.object RX9))
    | _ => false)
  | .new idx => o_new own cc idx cd o e
  | .invokevirtual idx => o_n 3 cd o e && o_iv own idx e.2.2.2
  | .invokestatic idx => o_n 3 cd o e && o_is own idx e.2.2.2
  | .invokespecial idx => match e.2.2.2 with
    | [9] => true
    | ps => o_n 3 cd o e && o_ii own idx ps
  | .ireturn => decide (e.2.2.1 = 1) && (match e.2.2.2 with
    | [0] => decide (ret = some .int)
    | [1] => decide (ret = some .boolean)
    | _ => false)
  | .lreturn => decide (e.2.2.1 = 1) && decide (ret = some .long)
  | .return_ => decide (e.2.2.1 = 1) && decide (ret = none)
  | .athrow => true
  | _ => false
noncomputable def o_all (own : String) (cc : ByteArray) (ret : Option FieldType) (init : Bool) (cd : List AI) : Nat → List AI → Bool
  | _, [] => true
  | o, e :: t => o_ok own cc ret init cd o e && o_all own cc ret init cd (o + 1) t
theorem o_all_at {own : String} {cc : ByteArray} {ret : Option FieldType} {init : Bool} {cd : List AI} : ∀ (l : List AI) (k j : Nat) (e : AI), o_all own cc ret init cd k l = true → l[j]? = some e → o_ok own cc ret init cd (k + j) e = true
  | [], k, j, e, _, h => by simp at h
  | x :: t, k, 0, e, ho, h => by
    simp only [o_all, Bool.and_eq_true] at ho
    simp at h
    subst h
    exact ho.1
  | x :: t, k, j + 1, e, ho, h => by
    simp only [o_all, Bool.and_eq_true] at ho
    have := o_all_at t (k + 1) j e ho.2 (by simpa using h)
    rw [show k + (j + 1) = k + 1 + j by omega]
    exact this
/-- a whole method -/
noncomputable def o_meth (q : AM) (w : Nat × Nat × Nat) (cd : List AI) (ml : Nat) : Bool :=
  o_pc cd 0 0 && decide (q.2.2.1 = ml) && decide (ml ≤ 12) && plainName q.1.cls && decide (q.1.cls = q.2.2.2.2.1) && decide (q.1.cls ≠ "java/lang/invoke/MethodHandle") && decide (q.1.cls ≠ "java/lang/invoke/VarHandle") && decide ((parseMethodDescriptor q.1.desc).map (fun d => d.parameters.length) = some w.2.2) &&
  o_w w.2.1 (.initialized q.1.cls) && (match q.2.2.2.2.2 with
    | [] => o_w w.1 (.code q.1 q.2.1 q.2.2.1 q.2.2.2.1)
    | hh => o_w w.1 (.codeWith q.1 q.2.1 q.2.2.1 q.2.2.2.1 hh)) && o_all q.2.2.2.2.1 q.2.1 q.2.2.2.1 (decide (q.1.name = "<init>")) cd 0 cd
