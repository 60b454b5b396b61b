set_option maxRecDepth 100000 in
set_option maxHeartbeats 4000000 in
theorem ok_0 : o_meth (yX0_init, cX0_init, 1, none, RX0, []) (305, 125, 0) aC_0 1 = true := by decide +kernel
set_option maxRecDepth 100000 in
set_option maxHeartbeats 4000000 in
theorem ok_1 : o_meth (yX0_forget, cX0_forget, 1, none, RX0, []) (948, 125, 0) aC_1 1 = true := by decide +kernel
set_option maxRecDepth 100000 in
set_option maxHeartbeats 4000000 in
theorem ok_2 : o_meth (yX0_find, cX0_find, 5, none, RX0, []) (1268, 125, 2) aC_2 5 = true := by decide +kernel
set_option maxRecDepth 100000 in
set_option maxHeartbeats 4000000 in
theorem ok_3 : o_meth (yX0_findCuts, cX0_findCuts, 5, none, RX0, []) (1272, 125, 1) aC_3 5 = true := by decide +kernel
set_option maxRecDepth 100000 in
set_option maxHeartbeats 4000000 in
theorem ok_4 : o_meth (yX0_standIn, cX0_standIn, 9, none, RX0, []) (1281, 125, 3) aC_4 9 = true := by decide +kernel
set_option maxRecDepth 100000 in
set_option maxHeartbeats 4000000 in
theorem ok_5 : o_meth (yX0_goOn, cX0_goOn, 3, none, RX0, []) (1289, 125, 1) aC_5 3 = true := by decide +kernel
set_option maxRecDepth 100000 in
set_option maxHeartbeats 4000000 in
theorem ok_6 : o_meth (yX0_cellShift, cX0_cellShift, 1, (some .int), RX0, []) (1284, 125, 1) aC_6 1 = true := by decide +kernel
set_option maxRecDepth 100000 in
set_option maxHeartbeats 4000000 in
theorem ok_7 : o_meth (yX0_leastCost, cX0_leastCost, 1, (some .int), RX0, []) (1293, 125, 0) aC_7 1 = true := by decide +kernel
set_option maxRecDepth 100000 in
set_option maxHeartbeats 4000000 in
theorem ok_8 : o_meth (yX0_cellFor, cX0_cellFor, 3, (some .int), RX0, []) (1304, 125, 1) aC_8 3 = true := by decide +kernel
set_option maxRecDepth 100000 in
set_option maxHeartbeats 4000000 in
theorem ok_9 : o_meth (yX1_init, cX1_init, 1, none, RX1, []) (248, 122, 0) aC_9 1 = true := by decide +kernel
set_option maxRecDepth 100000 in
set_option maxHeartbeats 4000000 in
theorem ok_10 : o_meth (yX1_forget, cX1_forget, 1, none, RX1, []) (944, 122, 0) aC_10 1 = true := by decide +kernel
set_option maxRecDepth 100000 in
set_option maxHeartbeats 4000000 in
theorem ok_11 : o_meth (yX1_read, cX1_read, 3, (some .boolean), RX1, []) (1135, 122, 1) aC_11 3 = true := by decide +kernel
set_option maxRecDepth 100000 in
set_option maxHeartbeats 4000000 in
theorem ok_12 : o_meth (yX1_readLine, cX1_readLine, 4, (some .boolean), RX1, []) (1141, 122, 2) aC_12 4 = true := by decide +kernel
set_option maxRecDepth 100000 in
set_option maxHeartbeats 4000000 in
theorem ok_13 : o_meth (yX1_fittingDays, cX1_fittingDays, 4, (some .int), RX1, []) (675, 122, 1) aC_13 4 = true := by decide +kernel
set_option maxRecDepth 100000 in
set_option maxHeartbeats 4000000 in
theorem ok_14 : o_meth (yX1_fitsOn, cX1_fitsOn, 4, (some .boolean), RX1, []) (679, 122, 2) aC_14 4 = true := by decide +kernel
set_option maxRecDepth 100000 in
set_option maxHeartbeats 4000000 in
theorem ok_15 : o_meth (yX2_init, cX2_init, 1, none, RX2, []) (347, 127, 0) aC_15 1 = true := by decide +kernel
set_option maxRecDepth 100000 in
set_option maxHeartbeats 4000000 in
theorem ok_16 : o_meth (yX2_forget, cX2_forget, 1, none, RX2, []) (956, 127, 0) aC_16 1 = true := by decide +kernel
set_option maxRecDepth 100000 in
set_option maxHeartbeats 4000000 in
theorem ok_17 : o_meth (yX2_find, cX2_find, 5, none, RX2, []) (1330, 127, 2) aC_17 5 = true := by decide +kernel
set_option maxRecDepth 100000 in
set_option maxHeartbeats 4000000 in
theorem ok_18 : o_meth (yX2_leastTime, cX2_leastTime, 5, (some .int), RX2, []) (1334, 127, 2) aC_18 5 = true := by decide +kernel
set_option maxRecDepth 100000 in
set_option maxHeartbeats 4000000 in
theorem ok_19 : o_meth (yX2_findsRoom, cX2_findsRoom, 6, (some .boolean), RX2, []) (1338, 127, 3) aC_19 6 = true := by decide +kernel
set_option maxRecDepth 100000 in
set_option maxHeartbeats 4000000 in
theorem ok_20 : o_meth (yX2_isFirstSuch, cX2_isFirstSuch, 3, (some .boolean), RX2, []) (1342, 127, 1) aC_20 3 = true := by decide +kernel
set_option maxRecDepth 100000 in
set_option maxHeartbeats 4000000 in
theorem ok_21 : o_meth (yX3_init, cX3_init, 1, none, RX3, []) (195, 120, 0) aC_21 1 = true := by decide +kernel
set_option maxRecDepth 100000 in
set_option maxHeartbeats 4000000 in
theorem ok_22 : o_meth (yX3_forget, cX3_forget, 1, none, RX3, []) (940, 120, 0) aC_22 1 = true := by decide +kernel
set_option maxRecDepth 100000 in
set_option maxHeartbeats 4000000 in
theorem ok_23 : o_meth (yX3_putUsual, cX3_putUsual, 1, none, RX3, []) (200, 120, 0) aC_23 1 = true := by decide +kernel
set_option maxRecDepth 100000 in
set_option maxHeartbeats 4000000 in
theorem ok_24 : o_meth (yX3_read, cX3_read, 2, (some .boolean), RX3, []) (971, 120, 1) aC_24 2 = true := by decide +kernel
set_option maxRecDepth 100000 in
set_option maxHeartbeats 4000000 in
theorem ok_25 : o_meth (yX3_putDraft, cX3_putDraft, 2, none, RX3, []) (208, 120, 0) aC_25 2 = true := by decide +kernel
set_option maxRecDepth 100000 in
set_option maxHeartbeats 4000000 in
theorem ok_26 : o_meth (yX3_emit, cX3_emit, 2, (some .boolean), RX3, []) (204, 120, 1) aC_26 2 = true := by decide +kernel
set_option maxRecDepth 100000 in
set_option maxHeartbeats 4000000 in
theorem ok_27 : o_meth (yX3_readSum, cX3_readSum, 5, (some .boolean), RX3, []) (975, 120, 2) aC_27 5 = true := by decide +kernel
set_option maxRecDepth 100000 in
set_option maxHeartbeats 4000000 in
theorem ok_28 : o_meth (yX3_readProduct, cX3_readProduct, 5, (some .boolean), RX3, []) (979, 120, 2) aC_28 5 = true := by decide +kernel
set_option maxRecDepth 100000 in
set_option maxHeartbeats 4000000 in
theorem ok_29 : o_meth (yX3_readPart, cX3_readPart, 5, (some .boolean), RX3, []) (983, 120, 2) aC_29 5 = true := by decide +kernel
set_option maxRecDepth 100000 in
set_option maxHeartbeats 4000000 in
theorem ok_30 : o_meth (yX3_tellWagon, cX3_tellWagon, 4, none, RX3, []) (1080, 120, 3) aC_30 4 = true := by decide +kernel
set_option maxRecDepth 100000 in
set_option maxHeartbeats 4000000 in
theorem ok_31 : o_meth (yX3_tellPlace, cX3_tellPlace, 6, none, RX3, []) (1084, 120, 5) aC_31 6 = true := by decide +kernel
set_option maxRecDepth 100000 in
set_option maxHeartbeats 4000000 in
theorem ok_32 : o_meth (yX3_hoursFor, cX3_hoursFor, 10, (some .int), RX3, []) (1076, 120, 6) aC_32 10 = true := by decide +kernel
set_option maxRecDepth 100000 in
set_option maxHeartbeats 4000000 in
theorem ok_33 : o_meth (yX3_outcome, cX3_outcome, 4, (some .int), RX3, []) (1088, 120, 0) aC_33 4 = true := by decide +kernel
set_option maxRecDepth 100000 in
set_option maxHeartbeats 4000000 in
theorem ok_34 : o_meth (yX3_join, cX3_join, 3, (some .int), RX3, []) (1091, 120, 3) aC_34 3 = true := by decide +kernel
set_option maxRecDepth 100000 in
set_option maxHeartbeats 4000000 in
theorem ok_35 : o_meth (yX4_init, cX4_init, 1, none, RX4, []) (449, 131, 0) aC_35 1 = true := by decide +kernel
set_option maxRecDepth 100000 in
set_option maxHeartbeats 4000000 in
theorem ok_36 : o_meth (yX4_readWell, cX4_readWell, 3, (some .boolean), RX4, []) (918, 131, 1) aC_36 3 = true := by decide +kernel
set_option maxRecDepth 100000 in
set_option maxHeartbeats 4000000 in
theorem ok_37 : o_meth (yX4_daysTo, cX4_daysTo, 5, (some .int), RX4, []) (1378, 131, 3) aC_37 5 = true := by decide +kernel
set_option maxRecDepth 100000 in
set_option maxHeartbeats 4000000 in
theorem ok_38 : o_meth (yX4_fewestTo, cX4_fewestTo, 9, (some .int), RX4, []) (1382, 131, 4) aC_38 9 = true := by decide +kernel
set_option maxRecDepth 100000 in
set_option maxHeartbeats 4000000 in
theorem ok_39 : o_meth (yX4_daysFor, cX4_daysFor, 3, (some .int), RX4, []) (1385, 131, 2) aC_39 3 = true := by decide +kernel
set_option maxRecDepth 100000 in
set_option maxHeartbeats 4000000 in
theorem ok_40 : o_meth (yX4_daysToOvertake, cX4_daysToOvertake, 7, (some .int), RX4, []) (1367, 131, 4) aC_40 7 = true := by decide +kernel
set_option maxRecDepth 100000 in
set_option maxHeartbeats 4000000 in
theorem ok_41 : o_meth (yX5_init, cX5_init, 1, none, RX5, []) (331, 126, 0) aC_41 1 = true := by decide +kernel
set_option maxRecDepth 100000 in
set_option maxHeartbeats 4000000 in
theorem ok_42 : o_meth (yX5_forget, cX5_forget, 1, none, RX5, []) (952, 126, 0) aC_42 1 = true := by decide +kernel
set_option maxRecDepth 100000 in
set_option maxHeartbeats 4000000 in
theorem ok_43 : o_meth (yX5_find, cX5_find, 4, none, RX5, []) (629, 126, 1) aC_43 4 = true := by decide +kernel
set_option maxRecDepth 100000 in
set_option maxHeartbeats 4000000 in
theorem ok_44 : o_meth (yX5_leastOf, cX5_leastOf, 10, (some .long), RX5, []) (633, 126, 2) aC_44 10 = true := by decide +kernel
set_option maxRecDepth 100000 in
set_option maxHeartbeats 4000000 in
theorem ok_45 : o_meth (yX5_placeShift, cX5_placeShift, 1, (some .int), RX5, []) (643, 126, 1) aC_45 1 = true := by decide +kernel
set_option maxRecDepth 100000 in
set_option maxHeartbeats 4000000 in
theorem ok_46 : o_meth (yX5_sum, cX5_sum, 1, (some .int), RX5, []) (650, 126, 0) aC_46 1 = true := by decide +kernel
set_option maxRecDepth 100000 in
set_option maxHeartbeats 4000000 in
theorem ok_47 : o_meth (yX5_wagonAt, cX5_wagonAt, 2, (some .int), RX5, []) (658, 126, 1) aC_47 2 = true := by decide +kernel
set_option maxRecDepth 100000 in
set_option maxHeartbeats 4000000 in
theorem ok_48 : o_meth (yX6_init, cX6_init, 1, none, RX6, []) (368, 128, 0) aC_48 1 = true := by decide +kernel
set_option maxRecDepth 100000 in
set_option maxHeartbeats 4000000 in
theorem ok_49 : o_meth (yX6_play, cX6_play, 9, none, RX6, []) (1477, 128, 5) aC_49 9 = true := by decide +kernel
set_option maxRecDepth 100000 in
set_option maxHeartbeats 4000000 in
theorem ok_50 : o_meth (yX6_layFirst, cX6_layFirst, 6, none, RX6, []) (1483, 128, 3) aC_50 6 = true := by decide +kernel
set_option maxRecDepth 100000 in
set_option maxHeartbeats 4000000 in
theorem ok_51 : o_meth (yX7_init, cX7_init, 1, none, RX7, []) (269, 124, 0) aC_51 1 = true := by decide +kernel
set_option maxRecDepth 100000 in
set_option maxHeartbeats 4000000 in
theorem ok_52 : o_meth (yX7_read, cX7_read, 5, (some .boolean), RX7, []) (1003, 124, 2) aC_52 5 = true := by decide +kernel
set_option maxRecDepth 100000 in
set_option maxHeartbeats 4000000 in
theorem ok_53 : o_meth (yX7_readStep, cX7_readStep, 4, (some .boolean), RX7, []) (1018, 124, 2) aC_53 4 = true := by decide +kernel
set_option maxRecDepth 100000 in
set_option maxHeartbeats 4000000 in
theorem ok_54 : o_meth (yX7_readLay, cX7_readLay, 4, (some .boolean), RX7, []) (1024, 124, 2) aC_54 4 = true := by decide +kernel
set_option maxRecDepth 100000 in
set_option maxHeartbeats 4000000 in
theorem ok_55 : o_meth (yX7_readAgain, cX7_readAgain, 2, (some .boolean), RX7, []) (1029, 124, 1) aC_55 2 = true := by decide +kernel
set_option maxRecDepth 100000 in
set_option maxHeartbeats 4000000 in
theorem ok_56 : o_meth (yX7_closeLoop, cX7_closeLoop, 2, (some .boolean), RX7, []) (1008, 124, 0) aC_56 2 = true := by decide +kernel
set_option maxRecDepth 100000 in
set_option maxHeartbeats 4000000 in
theorem ok_57 : o_meth (yX7_add, cX7_add, 4, (some .boolean), RX7, []) (1012, 124, 3) aC_57 4 = true := by decide +kernel
set_option maxRecDepth 100000 in
set_option maxHeartbeats 4000000 in
theorem ok_58 : o_meth (yX7_run, cX7_run, 7, none, RX7, []) (1039, 124, 3) aC_58 7 = true := by decide +kernel
set_option maxRecDepth 100000 in
set_option maxHeartbeats 4000000 in
theorem ok_59 : o_meth (yX7_startLoop, cX7_startLoop, 2, (some .int), RX7, []) (1048, 124, 1) aC_59 2 = true := by decide +kernel
set_option maxRecDepth 100000 in
set_option maxHeartbeats 4000000 in
theorem ok_60 : o_meth (yX7_endTurn, cX7_endTurn, 2, (some .int), RX7, []) (1044, 124, 1) aC_60 2 = true := by decide +kernel
set_option maxRecDepth 100000 in
set_option maxHeartbeats 4000000 in
theorem ok_61 : o_meth (yX7_doStep, cX7_doStep, 7, (some .boolean), RX7, []) (1052, 124, 4) aC_61 7 = true := by decide +kernel
set_option maxRecDepth 100000 in
set_option maxHeartbeats 4000000 in
theorem ok_62 : o_meth (yX8_init, cX8_init, 1, none, RX8, []) (156, 119, 0) aC_62 1 = true := by decide +kernel
set_option maxRecDepth 100000 in
set_option maxHeartbeats 4000000 in
theorem ok_63 : o_meth (yX8_put, cX8_put, 3, none, RX8, []) (598, 119, 1) aC_63 3 = true := by decide +kernel
set_option maxRecDepth 100000 in
set_option maxHeartbeats 4000000 in
theorem ok_64 : o_meth (yX8_open, cX8_open, 2, none, RX8, []) (790, 119, 1) aC_64 2 = true := by decide +kernel
set_option maxRecDepth 100000 in
set_option maxHeartbeats 4000000 in
theorem ok_65 : o_meth (yX8_faultAnswer, cX8_faultAnswer, 1, (some .int), RX8, []) (936, 119, 0) aC_65 1 = true := by decide +kernel
set_option maxRecDepth 100000 in
set_option maxHeartbeats 4000000 in
theorem ok_66 : o_meth (yX8_fail, cX8_fail, 2, (some .boolean), RX8, []) (865, 119, 1) aC_66 2 = true := by decide +kernel
set_option maxRecDepth 100000 in
set_option maxHeartbeats 4000000 in
theorem ok_67 : o_meth (yX8_more, cX8_more, 1, (some .boolean), RX8, []) (803, 119, 0) aC_67 1 = true := by decide +kernel
set_option maxRecDepth 100000 in
set_option maxHeartbeats 4000000 in
theorem ok_68 : o_meth (yX8_peek, cX8_peek, 1, (some .int), RX8, []) (882, 119, 0) aC_68 1 = true := by decide +kernel
set_option maxRecDepth 100000 in
set_option maxHeartbeats 4000000 in
theorem ok_69 : o_meth (yX8_takes, cX8_takes, 2, (some .boolean), RX8, []) (932, 119, 1) aC_69 2 = true := by decide +kernel
set_option maxRecDepth 100000 in
set_option maxHeartbeats 4000000 in
theorem ok_70 : o_meth (yX8_sign, cX8_sign, 2, (some .boolean), RX8, []) (928, 119, 1) aC_70 2 = true := by decide +kernel
set_option maxRecDepth 100000 in
set_option maxHeartbeats 4000000 in
theorem ok_71 : o_meth (yX8_number, cX8_number, 3, (some .boolean), RX8, []) (878, 119, 2) aC_71 3 = true := by decide +kernel
set_option maxRecDepth 100000 in
set_option maxHeartbeats 4000000 in
theorem ok_72 : o_meth (yX8_word, cX8_word, 5, (some .int), RX8, []) (808, 119, 1) aC_72 5 = true := by decide +kernel
set_option maxRecDepth 100000 in
set_option maxHeartbeats 4000000 in
theorem ok_73 : o_meth (yX8_isWord, cX8_isWord, 5, (some .boolean), RX8, []) (861, 119, 3) aC_73 5 = true := by decide +kernel
set_option maxRecDepth 100000 in
set_option maxHeartbeats 4000000 in
theorem ok_74 : o_meth (yX8_isDigit, cX8_isDigit, 1, (some .boolean), RX8, []) (885, 119, 1) aC_74 1 = true := by decide +kernel
set_option maxRecDepth 100000 in
set_option maxHeartbeats 4000000 in
theorem ok_75 : o_meth (yX9_init, cX9_init, 1, none, RX9, []) (374, 129, 0) aC_75 1 = true := by decide +kernel
set_option maxRecDepth 100000 in
set_option maxHeartbeats 4000000 in
theorem ok_76 : o_meth (yX9_copy, cX9_copy, 2, none, RX9, []) (1034, 129, 1) aC_76 2 = true := by decide +kernel
set_option maxRecDepth 100000 in
set_option maxHeartbeats 4000000 in
theorem ok_77 : o_meth (yX9_laidCount, cX9_laidCount, 1, (some .int), RX9, []) (1155, 129, 0) aC_77 1 = true := by decide +kernel
set_option maxRecDepth 100000 in
set_option maxHeartbeats 4000000 in
theorem ok_78 : o_meth (yX9_leftCount, cX9_leftCount, 3, (some .int), RX9, []) (1160, 129, 0) aC_78 3 = true := by decide +kernel
set_option maxRecDepth 100000 in
set_option maxHeartbeats 4000000 in
theorem ok_79 : o_meth (yX9_placeOf, cX9_placeOf, 2, (some .int), RX9, []) (1064, 129, 1) aC_79 2 = true := by decide +kernel
set_option maxRecDepth 100000 in
set_option maxHeartbeats 4000000 in
theorem ok_80 : o_meth (yX9_milesBehind, cX9_milesBehind, 2, (some .int), RX9, []) (1116, 129, 1) aC_80 2 = true := by decide +kernel
set_option maxRecDepth 100000 in
set_option maxHeartbeats 4000000 in
theorem ok_81 : o_meth (yX9_isLaidIn, cX9_isLaidIn, 2, (some .boolean), RX9, []) (1072, 129, 1) aC_81 2 = true := by decide +kernel
set_option maxRecDepth 100000 in
set_option maxHeartbeats 4000000 in
theorem ok_82 : o_meth (yX9_hoursIn, cX9_hoursIn, 6, (some .int), RX9, []) (1068, 129, 4) aC_82 6 = true := by decide +kernel
set_option maxRecDepth 100000 in
set_option maxHeartbeats 4000000 in
theorem ok_83 : o_meth (yX9_hoursToLay, cX9_hoursToLay, 6, (some .int), RX9, []) (1056, 129, 4) aC_83 6 = true := by decide +kernel
set_option maxRecDepth 100000 in
set_option maxHeartbeats 4000000 in
theorem ok_84 : o_meth (yX9_isReady, cX9_isReady, 3, (some .boolean), RX9, []) (1060, 129, 2) aC_84 3 = true := by decide +kernel
set_option maxRecDepth 100000 in
set_option maxHeartbeats 4000000 in
theorem ok_85 : o_meth (yX9_put, cX9_put, 4, none, RX9, []) (1099, 129, 3) aC_85 4 = true := by decide +kernel
set_option maxRecDepth 100000 in
set_option maxHeartbeats 4000000 in
theorem ok_86 : o_meth (yX9_takeUp, cX9_takeUp, 5, (some .boolean), RX9, []) (1103, 129, 2) aC_86 5 = true := by decide +kernel
set_option maxRecDepth 100000 in
set_option maxHeartbeats 4000000 in
theorem ok_87 : o_meth (yX9_isNeeded, cX9_isNeeded, 4, (some .boolean), RX9, []) (1108, 129, 2) aC_87 4 = true := by decide +kernel
set_option maxRecDepth 100000 in
set_option maxHeartbeats 4000000 in
theorem ok_88 : o_meth (yX9_fetchBack, cX9_fetchBack, 3, (some .boolean), RX9, []) (1112, 129, 1) aC_88 3 = true := by decide +kernel
set_option maxRecDepth 100000 in
set_option maxHeartbeats 4000000 in
theorem ok_89 : o_meth (yX9_endDay, cX9_endDay, 3, (some .boolean), RX9, []) (1120, 129, 1) aC_89 3 = true := by decide +kernel
set_option maxRecDepth 100000 in
set_option maxHeartbeats 4000000 in
theorem ok_90 : o_meth (yX9_kindsNow, cX9_kindsNow, 6, (some .long), RX9, []) (1124, 129, 1) aC_90 6 = true := by decide +kernel
set_option maxRecDepth 100000 in
set_option maxHeartbeats 4000000 in
theorem ok_91 : o_meth (yX9_kindNoted, cX9_kindNoted, 3, (some .int), RX9, []) (683, 129, 2) aC_91 3 = true := by decide +kernel
set_option maxRecDepth 100000 in
set_option maxHeartbeats 4000000 in
theorem ok_92 : o_meth (yX9_mostAlike, cX9_mostAlike, 7, (some .int), RX9, []) (1439, 129, 2) aC_92 7 = true := by decide +kernel
set_option maxRecDepth 100000 in
set_option maxHeartbeats 4000000 in
theorem ok_93 : o_meth (yX9_tiesFrom, cX9_tiesFrom, 6, (some .int), RX9, []) (614, 129, 3) aC_93 6 = true := by decide +kernel
set_option maxRecDepth 100000 in
set_option maxHeartbeats 4000000 in
theorem ok_94 : o_meth (yX10_init, cX10_init, 1, none, RX10, []) (443, 130, 0) aC_94 1 = true := by decide +kernel
set_option maxRecDepth 100000 in
set_option maxHeartbeats 4000000 in
theorem ok_95 : o_meth (yX10_clear, cX10_clear, 1, none, RX10, []) (798, 130, 0) aC_95 1 = true := by decide +kernel
set_option maxRecDepth 100000 in
set_option maxHeartbeats 4000000 in
theorem ok_96 : o_meth (yX10_read, cX10_read, 4, (some .boolean), RX10, []) (794, 130, 1) aC_96 4 = true := by decide +kernel
set_option maxRecDepth 100000 in
set_option maxHeartbeats 4000000 in
theorem ok_97 : o_meth (yX10_readClause, cX10_readClause, 3, (some .boolean), RX10, []) (870, 130, 2) aC_97 3 = true := by decide +kernel
set_option maxRecDepth 100000 in
set_option maxHeartbeats 4000000 in
theorem ok_98 : o_meth (yX10_readWagon, cX10_readWagon, 2, (some .boolean), RX10, []) (874, 130, 1) aC_98 2 = true := by decide +kernel
set_option maxRecDepth 100000 in
set_option maxHeartbeats 4000000 in
theorem ok_99 : o_meth (yX10_readTie, cX10_readTie, 4, (some .boolean), RX10, []) (890, 130, 1) aC_99 4 = true := by decide +kernel
set_option maxRecDepth 100000 in
set_option maxHeartbeats 4000000 in
theorem ok_100 : o_meth (yX10_readNeeds, cX10_readNeeds, 3, (some .boolean), RX10, []) (894, 130, 1) aC_100 3 = true := by decide +kernel
set_option maxRecDepth 100000 in
set_option maxHeartbeats 4000000 in
theorem ok_101 : o_meth (yX10_readGround, cX10_readGround, 3, (some .boolean), RX10, []) (898, 130, 1) aC_101 3 = true := by decide +kernel
set_option maxRecDepth 100000 in
set_option maxHeartbeats 4000000 in
theorem ok_102 : o_meth (yX10_readHours, cX10_readHours, 2, (some .boolean), RX10, []) (902, 130, 1) aC_102 2 = true := by decide +kernel
set_option maxRecDepth 100000 in
set_option maxHeartbeats 4000000 in
theorem ok_103 : o_meth (yX10_readSpeed, cX10_readSpeed, 2, (some .boolean), RX10, []) (906, 130, 1) aC_103 2 = true := by decide +kernel
set_option maxRecDepth 100000 in
set_option maxHeartbeats 4000000 in
theorem ok_104 : o_meth (yX10_readFrost, cX10_readFrost, 2, (some .boolean), RX10, []) (924, 130, 1) aC_104 2 = true := by decide +kernel
set_option maxRecDepth 100000 in
set_option maxHeartbeats 4000000 in
theorem ok_105 : o_meth (yX10_readGang, cX10_readGang, 2, (some .boolean), RX10, []) (910, 130, 1) aC_105 2 = true := by decide +kernel
set_option maxRecDepth 100000 in
set_option maxHeartbeats 4000000 in
theorem ok_106 : o_meth (yX10_readVoter, cX10_readVoter, 5, (some .boolean), RX10, []) (914, 130, 1) aC_106 5 = true := by decide +kernel
set_option maxRecDepth 100000 in
set_option maxHeartbeats 4000000 in
theorem ok_107 : o_meth (yX10_tieOf, cX10_tieOf, 3, (some .int), RX10, []) (618, 130, 2) aC_107 3 = true := by decide +kernel
set_option maxRecDepth 100000 in
set_option maxHeartbeats 4000000 in
theorem ok_108 : o_meth (yX10_likers, cX10_likers, 5, (some .int), RX10, []) (667, 130, 2) aC_108 5 = true := by decide +kernel
set_option maxRecDepth 100000 in
set_option maxHeartbeats 4000000 in
theorem ok_109 : o_meth (yX10_voteWinner, cX10_voteWinner, 3, (some .int), RX10, []) (1420, 130, 2) aC_109 3 = true := by decide +kernel
