/-! All checks of the tables, joined -/
def g_one (mi : Nat) : Prop := ∀ (q : AM) (w : Nat × Nat × Nat), a_ms[mi]? = some q → a_wps[mi]? = some w → o_meth q w (a_code mi) (a_maxL mi) = true ∧ o_hd q.2.2.2.2.1 (a_code mi) q.2.2.2.2.2 (a_hand mi) = true
theorem g_one_0 : g_one 0 := fun q w hq hw => by
  cases (show some ((yX0_init, cX0_init, 1, none, RX0, []) : AM) = some q from hq)
  cases (show some ((305, 125, 0) : Nat × Nat × Nat) = some w from hw)
  exact ⟨ok_0, by decide +kernel⟩
theorem g_one_1 : g_one 1 := fun q w hq hw => by
  cases (show some ((yX0_forget, cX0_forget, 1, none, RX0, []) : AM) = some q from hq)
  cases (show some ((948, 125, 0) : Nat × Nat × Nat) = some w from hw)
  exact ⟨ok_1, by decide +kernel⟩
theorem g_one_2 : g_one 2 := fun q w hq hw => by
  cases (show some ((yX0_find, cX0_find, 5, none, RX0, []) : AM) = some q from hq)
  cases (show some ((1268, 125, 2) : Nat × Nat × Nat) = some w from hw)
  exact ⟨ok_2, by decide +kernel⟩
theorem g_one_3 : g_one 3 := fun q w hq hw => by
  cases (show some ((yX0_findCuts, cX0_findCuts, 5, none, RX0, []) : AM) = some q from hq)
  cases (show some ((1272, 125, 1) : Nat × Nat × Nat) = some w from hw)
  exact ⟨ok_3, by decide +kernel⟩
theorem g_one_4 : g_one 4 := fun q w hq hw => by
  cases (show some ((yX0_standIn, cX0_standIn, 9, none, RX0, []) : AM) = some q from hq)
  cases (show some ((1281, 125, 3) : Nat × Nat × Nat) = some w from hw)
  exact ⟨ok_4, by decide +kernel⟩
theorem g_one_5 : g_one 5 := fun q w hq hw => by
  cases (show some ((yX0_goOn, cX0_goOn, 3, none, RX0, []) : AM) = some q from hq)
  cases (show some ((1289, 125, 1) : Nat × Nat × Nat) = some w from hw)
  exact ⟨ok_5, by decide +kernel⟩
theorem g_one_6 : g_one 6 := fun q w hq hw => by
  cases (show some ((yX0_cellShift, cX0_cellShift, 1, (some .int), RX0, []) : AM) = some q from hq)
  cases (show some ((1284, 125, 1) : Nat × Nat × Nat) = some w from hw)
  exact ⟨ok_6, by decide +kernel⟩
theorem g_one_7 : g_one 7 := fun q w hq hw => by
  cases (show some ((yX0_leastCost, cX0_leastCost, 1, (some .int), RX0, []) : AM) = some q from hq)
  cases (show some ((1293, 125, 0) : Nat × Nat × Nat) = some w from hw)
  exact ⟨ok_7, by decide +kernel⟩
theorem g_one_8 : g_one 8 := fun q w hq hw => by
  cases (show some ((yX0_cellFor, cX0_cellFor, 3, (some .int), RX0, []) : AM) = some q from hq)
  cases (show some ((1304, 125, 1) : Nat × Nat × Nat) = some w from hw)
  exact ⟨ok_8, by decide +kernel⟩
theorem g_one_9 : g_one 9 := fun q w hq hw => by
  cases (show some ((yX1_init, cX1_init, 1, none, RX1, []) : AM) = some q from hq)
  cases (show some ((248, 122, 0) : Nat × Nat × Nat) = some w from hw)
  exact ⟨ok_9, by decide +kernel⟩
theorem g_one_10 : g_one 10 := fun q w hq hw => by
  cases (show some ((yX1_forget, cX1_forget, 1, none, RX1, []) : AM) = some q from hq)
  cases (show some ((944, 122, 0) : Nat × Nat × Nat) = some w from hw)
  exact ⟨ok_10, by decide +kernel⟩
theorem g_one_11 : g_one 11 := fun q w hq hw => by
  cases (show some ((yX1_read, cX1_read, 3, (some .boolean), RX1, []) : AM) = some q from hq)
  cases (show some ((1135, 122, 1) : Nat × Nat × Nat) = some w from hw)
  exact ⟨ok_11, by decide +kernel⟩
theorem g_one_12 : g_one 12 := fun q w hq hw => by
  cases (show some ((yX1_readLine, cX1_readLine, 4, (some .boolean), RX1, []) : AM) = some q from hq)
  cases (show some ((1141, 122, 2) : Nat × Nat × Nat) = some w from hw)
  exact ⟨ok_12, by decide +kernel⟩
theorem g_one_13 : g_one 13 := fun q w hq hw => by
  cases (show some ((yX1_fittingDays, cX1_fittingDays, 4, (some .int), RX1, []) : AM) = some q from hq)
  cases (show some ((675, 122, 1) : Nat × Nat × Nat) = some w from hw)
  exact ⟨ok_13, by decide +kernel⟩
theorem g_one_14 : g_one 14 := fun q w hq hw => by
  cases (show some ((yX1_fitsOn, cX1_fitsOn, 4, (some .boolean), RX1, []) : AM) = some q from hq)
  cases (show some ((679, 122, 2) : Nat × Nat × Nat) = some w from hw)
  exact ⟨ok_14, by decide +kernel⟩
theorem g_one_15 : g_one 15 := fun q w hq hw => by
  cases (show some ((yX2_init, cX2_init, 1, none, RX2, []) : AM) = some q from hq)
  cases (show some ((347, 127, 0) : Nat × Nat × Nat) = some w from hw)
  exact ⟨ok_15, by decide +kernel⟩
theorem g_one_16 : g_one 16 := fun q w hq hw => by
  cases (show some ((yX2_forget, cX2_forget, 1, none, RX2, []) : AM) = some q from hq)
  cases (show some ((956, 127, 0) : Nat × Nat × Nat) = some w from hw)
  exact ⟨ok_16, by decide +kernel⟩
theorem g_one_17 : g_one 17 := fun q w hq hw => by
  cases (show some ((yX2_find, cX2_find, 5, none, RX2, []) : AM) = some q from hq)
  cases (show some ((1330, 127, 2) : Nat × Nat × Nat) = some w from hw)
  exact ⟨ok_17, by decide +kernel⟩
theorem g_one_18 : g_one 18 := fun q w hq hw => by
  cases (show some ((yX2_leastTime, cX2_leastTime, 5, (some .int), RX2, []) : AM) = some q from hq)
  cases (show some ((1334, 127, 2) : Nat × Nat × Nat) = some w from hw)
  exact ⟨ok_18, by decide +kernel⟩
theorem g_one_19 : g_one 19 := fun q w hq hw => by
  cases (show some ((yX2_findsRoom, cX2_findsRoom, 6, (some .boolean), RX2, []) : AM) = some q from hq)
  cases (show some ((1338, 127, 3) : Nat × Nat × Nat) = some w from hw)
  exact ⟨ok_19, by decide +kernel⟩
theorem g_one_20 : g_one 20 := fun q w hq hw => by
  cases (show some ((yX2_isFirstSuch, cX2_isFirstSuch, 3, (some .boolean), RX2, []) : AM) = some q from hq)
  cases (show some ((1342, 127, 1) : Nat × Nat × Nat) = some w from hw)
  exact ⟨ok_20, by decide +kernel⟩
theorem g_one_21 : g_one 21 := fun q w hq hw => by
  cases (show some ((yX3_init, cX3_init, 1, none, RX3, []) : AM) = some q from hq)
  cases (show some ((195, 120, 0) : Nat × Nat × Nat) = some w from hw)
  exact ⟨ok_21, by decide +kernel⟩
theorem g_one_22 : g_one 22 := fun q w hq hw => by
  cases (show some ((yX3_forget, cX3_forget, 1, none, RX3, []) : AM) = some q from hq)
  cases (show some ((940, 120, 0) : Nat × Nat × Nat) = some w from hw)
  exact ⟨ok_22, by decide +kernel⟩
theorem g_one_23 : g_one 23 := fun q w hq hw => by
  cases (show some ((yX3_putUsual, cX3_putUsual, 1, none, RX3, []) : AM) = some q from hq)
  cases (show some ((200, 120, 0) : Nat × Nat × Nat) = some w from hw)
  exact ⟨ok_23, by decide +kernel⟩
theorem g_one_24 : g_one 24 := fun q w hq hw => by
  cases (show some ((yX3_read, cX3_read, 2, (some .boolean), RX3, []) : AM) = some q from hq)
  cases (show some ((971, 120, 1) : Nat × Nat × Nat) = some w from hw)
  exact ⟨ok_24, by decide +kernel⟩
theorem g_one_25 : g_one 25 := fun q w hq hw => by
  cases (show some ((yX3_putDraft, cX3_putDraft, 2, none, RX3, []) : AM) = some q from hq)
  cases (show some ((208, 120, 0) : Nat × Nat × Nat) = some w from hw)
  exact ⟨ok_25, by decide +kernel⟩
theorem g_one_26 : g_one 26 := fun q w hq hw => by
  cases (show some ((yX3_emit, cX3_emit, 2, (some .boolean), RX3, []) : AM) = some q from hq)
  cases (show some ((204, 120, 1) : Nat × Nat × Nat) = some w from hw)
  exact ⟨ok_26, by decide +kernel⟩
theorem g_one_27 : g_one 27 := fun q w hq hw => by
  cases (show some ((yX3_readSum, cX3_readSum, 5, (some .boolean), RX3, []) : AM) = some q from hq)
  cases (show some ((975, 120, 2) : Nat × Nat × Nat) = some w from hw)
  exact ⟨ok_27, by decide +kernel⟩
theorem g_one_28 : g_one 28 := fun q w hq hw => by
  cases (show some ((yX3_readProduct, cX3_readProduct, 5, (some .boolean), RX3, []) : AM) = some q from hq)
  cases (show some ((979, 120, 2) : Nat × Nat × Nat) = some w from hw)
  exact ⟨ok_28, by decide +kernel⟩
theorem g_one_29 : g_one 29 := fun q w hq hw => by
  cases (show some ((yX3_readPart, cX3_readPart, 5, (some .boolean), RX3, []) : AM) = some q from hq)
  cases (show some ((983, 120, 2) : Nat × Nat × Nat) = some w from hw)
  exact ⟨ok_29, by decide +kernel⟩
theorem g_one_30 : g_one 30 := fun q w hq hw => by
  cases (show some ((yX3_tellWagon, cX3_tellWagon, 4, none, RX3, []) : AM) = some q from hq)
  cases (show some ((1080, 120, 3) : Nat × Nat × Nat) = some w from hw)
  exact ⟨ok_30, by decide +kernel⟩
theorem g_one_31 : g_one 31 := fun q w hq hw => by
  cases (show some ((yX3_tellPlace, cX3_tellPlace, 6, none, RX3, []) : AM) = some q from hq)
  cases (show some ((1084, 120, 5) : Nat × Nat × Nat) = some w from hw)
  exact ⟨ok_31, by decide +kernel⟩
theorem g_one_32 : g_one 32 := fun q w hq hw => by
  cases (show some ((yX3_hoursFor, cX3_hoursFor, 10, (some .int), RX3, []) : AM) = some q from hq)
  cases (show some ((1076, 120, 6) : Nat × Nat × Nat) = some w from hw)
  exact ⟨ok_32, by decide +kernel⟩
theorem g_one_33 : g_one 33 := fun q w hq hw => by
  cases (show some ((yX3_outcome, cX3_outcome, 4, (some .int), RX3, []) : AM) = some q from hq)
  cases (show some ((1088, 120, 0) : Nat × Nat × Nat) = some w from hw)
  exact ⟨ok_33, by decide +kernel⟩
theorem g_one_34 : g_one 34 := fun q w hq hw => by
  cases (show some ((yX3_join, cX3_join, 3, (some .int), RX3, []) : AM) = some q from hq)
  cases (show some ((1091, 120, 3) : Nat × Nat × Nat) = some w from hw)
  exact ⟨ok_34, by decide +kernel⟩
theorem g_one_35 : g_one 35 := fun q w hq hw => by
  cases (show some ((yX4_init, cX4_init, 1, none, RX4, []) : AM) = some q from hq)
  cases (show some ((449, 131, 0) : Nat × Nat × Nat) = some w from hw)
  exact ⟨ok_35, by decide +kernel⟩
theorem g_one_36 : g_one 36 := fun q w hq hw => by
  cases (show some ((yX4_readWell, cX4_readWell, 3, (some .boolean), RX4, []) : AM) = some q from hq)
  cases (show some ((918, 131, 1) : Nat × Nat × Nat) = some w from hw)
  exact ⟨ok_36, by decide +kernel⟩
theorem g_one_37 : g_one 37 := fun q w hq hw => by
  cases (show some ((yX4_daysTo, cX4_daysTo, 5, (some .int), RX4, []) : AM) = some q from hq)
  cases (show some ((1378, 131, 3) : Nat × Nat × Nat) = some w from hw)
  exact ⟨ok_37, by decide +kernel⟩
theorem g_one_38 : g_one 38 := fun q w hq hw => by
  cases (show some ((yX4_fewestTo, cX4_fewestTo, 9, (some .int), RX4, []) : AM) = some q from hq)
  cases (show some ((1382, 131, 4) : Nat × Nat × Nat) = some w from hw)
  exact ⟨ok_38, by decide +kernel⟩
theorem g_one_39 : g_one 39 := fun q w hq hw => by
  cases (show some ((yX4_daysFor, cX4_daysFor, 3, (some .int), RX4, []) : AM) = some q from hq)
  cases (show some ((1385, 131, 2) : Nat × Nat × Nat) = some w from hw)
  exact ⟨ok_39, by decide +kernel⟩
theorem g_one_40 : g_one 40 := fun q w hq hw => by
  cases (show some ((yX4_daysToOvertake, cX4_daysToOvertake, 7, (some .int), RX4, []) : AM) = some q from hq)
  cases (show some ((1367, 131, 4) : Nat × Nat × Nat) = some w from hw)
  exact ⟨ok_40, by decide +kernel⟩
theorem g_one_41 : g_one 41 := fun q w hq hw => by
  cases (show some ((yX5_init, cX5_init, 1, none, RX5, []) : AM) = some q from hq)
  cases (show some ((331, 126, 0) : Nat × Nat × Nat) = some w from hw)
  exact ⟨ok_41, by decide +kernel⟩
theorem g_one_42 : g_one 42 := fun q w hq hw => by
  cases (show some ((yX5_forget, cX5_forget, 1, none, RX5, []) : AM) = some q from hq)
  cases (show some ((952, 126, 0) : Nat × Nat × Nat) = some w from hw)
  exact ⟨ok_42, by decide +kernel⟩
theorem g_one_43 : g_one 43 := fun q w hq hw => by
  cases (show some ((yX5_find, cX5_find, 4, none, RX5, []) : AM) = some q from hq)
  cases (show some ((629, 126, 1) : Nat × Nat × Nat) = some w from hw)
  exact ⟨ok_43, by decide +kernel⟩
theorem g_one_44 : g_one 44 := fun q w hq hw => by
  cases (show some ((yX5_leastOf, cX5_leastOf, 10, (some .long), RX5, []) : AM) = some q from hq)
  cases (show some ((633, 126, 2) : Nat × Nat × Nat) = some w from hw)
  exact ⟨ok_44, by decide +kernel⟩
theorem g_one_45 : g_one 45 := fun q w hq hw => by
  cases (show some ((yX5_placeShift, cX5_placeShift, 1, (some .int), RX5, []) : AM) = some q from hq)
  cases (show some ((643, 126, 1) : Nat × Nat × Nat) = some w from hw)
  exact ⟨ok_45, by decide +kernel⟩
theorem g_one_46 : g_one 46 := fun q w hq hw => by
  cases (show some ((yX5_sum, cX5_sum, 1, (some .int), RX5, []) : AM) = some q from hq)
  cases (show some ((650, 126, 0) : Nat × Nat × Nat) = some w from hw)
  exact ⟨ok_46, by decide +kernel⟩
theorem g_one_47 : g_one 47 := fun q w hq hw => by
  cases (show some ((yX5_wagonAt, cX5_wagonAt, 2, (some .int), RX5, []) : AM) = some q from hq)
  cases (show some ((658, 126, 1) : Nat × Nat × Nat) = some w from hw)
  exact ⟨ok_47, by decide +kernel⟩
theorem g_one_48 : g_one 48 := fun q w hq hw => by
  cases (show some ((yX6_init, cX6_init, 1, none, RX6, []) : AM) = some q from hq)
  cases (show some ((368, 128, 0) : Nat × Nat × Nat) = some w from hw)
  exact ⟨ok_48, by decide +kernel⟩
theorem g_one_49 : g_one 49 := fun q w hq hw => by
  cases (show some ((yX6_play, cX6_play, 9, none, RX6, []) : AM) = some q from hq)
  cases (show some ((1477, 128, 5) : Nat × Nat × Nat) = some w from hw)
  exact ⟨ok_49, by decide +kernel⟩
theorem g_one_50 : g_one 50 := fun q w hq hw => by
  cases (show some ((yX6_layFirst, cX6_layFirst, 6, none, RX6, []) : AM) = some q from hq)
  cases (show some ((1483, 128, 3) : Nat × Nat × Nat) = some w from hw)
  exact ⟨ok_50, by decide +kernel⟩
theorem g_one_51 : g_one 51 := fun q w hq hw => by
  cases (show some ((yX7_init, cX7_init, 1, none, RX7, []) : AM) = some q from hq)
  cases (show some ((269, 124, 0) : Nat × Nat × Nat) = some w from hw)
  exact ⟨ok_51, by decide +kernel⟩
theorem g_one_52 : g_one 52 := fun q w hq hw => by
  cases (show some ((yX7_read, cX7_read, 5, (some .boolean), RX7, []) : AM) = some q from hq)
  cases (show some ((1003, 124, 2) : Nat × Nat × Nat) = some w from hw)
  exact ⟨ok_52, by decide +kernel⟩
theorem g_one_53 : g_one 53 := fun q w hq hw => by
  cases (show some ((yX7_readStep, cX7_readStep, 4, (some .boolean), RX7, []) : AM) = some q from hq)
  cases (show some ((1018, 124, 2) : Nat × Nat × Nat) = some w from hw)
  exact ⟨ok_53, by decide +kernel⟩
theorem g_one_54 : g_one 54 := fun q w hq hw => by
  cases (show some ((yX7_readLay, cX7_readLay, 4, (some .boolean), RX7, []) : AM) = some q from hq)
  cases (show some ((1024, 124, 2) : Nat × Nat × Nat) = some w from hw)
  exact ⟨ok_54, by decide +kernel⟩
theorem g_one_55 : g_one 55 := fun q w hq hw => by
  cases (show some ((yX7_readAgain, cX7_readAgain, 2, (some .boolean), RX7, []) : AM) = some q from hq)
  cases (show some ((1029, 124, 1) : Nat × Nat × Nat) = some w from hw)
  exact ⟨ok_55, by decide +kernel⟩
theorem g_one_56 : g_one 56 := fun q w hq hw => by
  cases (show some ((yX7_closeLoop, cX7_closeLoop, 2, (some .boolean), RX7, []) : AM) = some q from hq)
  cases (show some ((1008, 124, 0) : Nat × Nat × Nat) = some w from hw)
  exact ⟨ok_56, by decide +kernel⟩
theorem g_one_57 : g_one 57 := fun q w hq hw => by
  cases (show some ((yX7_add, cX7_add, 4, (some .boolean), RX7, []) : AM) = some q from hq)
  cases (show some ((1012, 124, 3) : Nat × Nat × Nat) = some w from hw)
  exact ⟨ok_57, by decide +kernel⟩
theorem g_one_58 : g_one 58 := fun q w hq hw => by
  cases (show some ((yX7_run, cX7_run, 7, none, RX7, []) : AM) = some q from hq)
  cases (show some ((1039, 124, 3) : Nat × Nat × Nat) = some w from hw)
  exact ⟨ok_58, by decide +kernel⟩
theorem g_one_59 : g_one 59 := fun q w hq hw => by
  cases (show some ((yX7_startLoop, cX7_startLoop, 2, (some .int), RX7, []) : AM) = some q from hq)
  cases (show some ((1048, 124, 1) : Nat × Nat × Nat) = some w from hw)
  exact ⟨ok_59, by decide +kernel⟩
theorem g_one_60 : g_one 60 := fun q w hq hw => by
  cases (show some ((yX7_endTurn, cX7_endTurn, 2, (some .int), RX7, []) : AM) = some q from hq)
  cases (show some ((1044, 124, 1) : Nat × Nat × Nat) = some w from hw)
  exact ⟨ok_60, by decide +kernel⟩
theorem g_one_61 : g_one 61 := fun q w hq hw => by
  cases (show some ((yX7_doStep, cX7_doStep, 7, (some .boolean), RX7, []) : AM) = some q from hq)
  cases (show some ((1052, 124, 4) : Nat × Nat × Nat) = some w from hw)
  exact ⟨ok_61, by decide +kernel⟩
theorem g_one_62 : g_one 62 := fun q w hq hw => by
  cases (show some ((yX8_init, cX8_init, 1, none, RX8, []) : AM) = some q from hq)
  cases (show some ((156, 119, 0) : Nat × Nat × Nat) = some w from hw)
  exact ⟨ok_62, by decide +kernel⟩
theorem g_one_63 : g_one 63 := fun q w hq hw => by
  cases (show some ((yX8_put, cX8_put, 3, none, RX8, []) : AM) = some q from hq)
  cases (show some ((598, 119, 1) : Nat × Nat × Nat) = some w from hw)
  exact ⟨ok_63, by decide +kernel⟩
theorem g_one_64 : g_one 64 := fun q w hq hw => by
  cases (show some ((yX8_open, cX8_open, 2, none, RX8, []) : AM) = some q from hq)
  cases (show some ((790, 119, 1) : Nat × Nat × Nat) = some w from hw)
  exact ⟨ok_64, by decide +kernel⟩
theorem g_one_65 : g_one 65 := fun q w hq hw => by
  cases (show some ((yX8_faultAnswer, cX8_faultAnswer, 1, (some .int), RX8, []) : AM) = some q from hq)
  cases (show some ((936, 119, 0) : Nat × Nat × Nat) = some w from hw)
  exact ⟨ok_65, by decide +kernel⟩
theorem g_one_66 : g_one 66 := fun q w hq hw => by
  cases (show some ((yX8_fail, cX8_fail, 2, (some .boolean), RX8, []) : AM) = some q from hq)
  cases (show some ((865, 119, 1) : Nat × Nat × Nat) = some w from hw)
  exact ⟨ok_66, by decide +kernel⟩
theorem g_one_67 : g_one 67 := fun q w hq hw => by
  cases (show some ((yX8_more, cX8_more, 1, (some .boolean), RX8, []) : AM) = some q from hq)
  cases (show some ((803, 119, 0) : Nat × Nat × Nat) = some w from hw)
  exact ⟨ok_67, by decide +kernel⟩
theorem g_one_68 : g_one 68 := fun q w hq hw => by
  cases (show some ((yX8_peek, cX8_peek, 1, (some .int), RX8, []) : AM) = some q from hq)
  cases (show some ((882, 119, 0) : Nat × Nat × Nat) = some w from hw)
  exact ⟨ok_68, by decide +kernel⟩
theorem g_one_69 : g_one 69 := fun q w hq hw => by
  cases (show some ((yX8_takes, cX8_takes, 2, (some .boolean), RX8, []) : AM) = some q from hq)
  cases (show some ((932, 119, 1) : Nat × Nat × Nat) = some w from hw)
  exact ⟨ok_69, by decide +kernel⟩
theorem g_one_70 : g_one 70 := fun q w hq hw => by
  cases (show some ((yX8_sign, cX8_sign, 2, (some .boolean), RX8, []) : AM) = some q from hq)
  cases (show some ((928, 119, 1) : Nat × Nat × Nat) = some w from hw)
  exact ⟨ok_70, by decide +kernel⟩
theorem g_one_71 : g_one 71 := fun q w hq hw => by
  cases (show some ((yX8_number, cX8_number, 3, (some .boolean), RX8, []) : AM) = some q from hq)
  cases (show some ((878, 119, 2) : Nat × Nat × Nat) = some w from hw)
  exact ⟨ok_71, by decide +kernel⟩
theorem g_one_72 : g_one 72 := fun q w hq hw => by
  cases (show some ((yX8_word, cX8_word, 5, (some .int), RX8, []) : AM) = some q from hq)
  cases (show some ((808, 119, 1) : Nat × Nat × Nat) = some w from hw)
  exact ⟨ok_72, by decide +kernel⟩
theorem g_one_73 : g_one 73 := fun q w hq hw => by
  cases (show some ((yX8_isWord, cX8_isWord, 5, (some .boolean), RX8, []) : AM) = some q from hq)
  cases (show some ((861, 119, 3) : Nat × Nat × Nat) = some w from hw)
  exact ⟨ok_73, by decide +kernel⟩
theorem g_one_74 : g_one 74 := fun q w hq hw => by
  cases (show some ((yX8_isDigit, cX8_isDigit, 1, (some .boolean), RX8, []) : AM) = some q from hq)
  cases (show some ((885, 119, 1) : Nat × Nat × Nat) = some w from hw)
  exact ⟨ok_74, by decide +kernel⟩
theorem g_one_75 : g_one 75 := fun q w hq hw => by
  cases (show some ((yX9_init, cX9_init, 1, none, RX9, []) : AM) = some q from hq)
  cases (show some ((374, 129, 0) : Nat × Nat × Nat) = some w from hw)
  exact ⟨ok_75, by decide +kernel⟩
theorem g_one_76 : g_one 76 := fun q w hq hw => by
  cases (show some ((yX9_copy, cX9_copy, 2, none, RX9, []) : AM) = some q from hq)
  cases (show some ((1034, 129, 1) : Nat × Nat × Nat) = some w from hw)
  exact ⟨ok_76, by decide +kernel⟩
theorem g_one_77 : g_one 77 := fun q w hq hw => by
  cases (show some ((yX9_laidCount, cX9_laidCount, 1, (some .int), RX9, []) : AM) = some q from hq)
  cases (show some ((1155, 129, 0) : Nat × Nat × Nat) = some w from hw)
  exact ⟨ok_77, by decide +kernel⟩
theorem g_one_78 : g_one 78 := fun q w hq hw => by
  cases (show some ((yX9_leftCount, cX9_leftCount, 3, (some .int), RX9, []) : AM) = some q from hq)
  cases (show some ((1160, 129, 0) : Nat × Nat × Nat) = some w from hw)
  exact ⟨ok_78, by decide +kernel⟩
theorem g_one_79 : g_one 79 := fun q w hq hw => by
  cases (show some ((yX9_placeOf, cX9_placeOf, 2, (some .int), RX9, []) : AM) = some q from hq)
  cases (show some ((1064, 129, 1) : Nat × Nat × Nat) = some w from hw)
  exact ⟨ok_79, by decide +kernel⟩
theorem g_one_80 : g_one 80 := fun q w hq hw => by
  cases (show some ((yX9_milesBehind, cX9_milesBehind, 2, (some .int), RX9, []) : AM) = some q from hq)
  cases (show some ((1116, 129, 1) : Nat × Nat × Nat) = some w from hw)
  exact ⟨ok_80, by decide +kernel⟩
theorem g_one_81 : g_one 81 := fun q w hq hw => by
  cases (show some ((yX9_isLaidIn, cX9_isLaidIn, 2, (some .boolean), RX9, []) : AM) = some q from hq)
  cases (show some ((1072, 129, 1) : Nat × Nat × Nat) = some w from hw)
  exact ⟨ok_81, by decide +kernel⟩
theorem g_one_82 : g_one 82 := fun q w hq hw => by
  cases (show some ((yX9_hoursIn, cX9_hoursIn, 6, (some .int), RX9, []) : AM) = some q from hq)
  cases (show some ((1068, 129, 4) : Nat × Nat × Nat) = some w from hw)
  exact ⟨ok_82, by decide +kernel⟩
theorem g_one_83 : g_one 83 := fun q w hq hw => by
  cases (show some ((yX9_hoursToLay, cX9_hoursToLay, 6, (some .int), RX9, []) : AM) = some q from hq)
  cases (show some ((1056, 129, 4) : Nat × Nat × Nat) = some w from hw)
  exact ⟨ok_83, by decide +kernel⟩
theorem g_one_84 : g_one 84 := fun q w hq hw => by
  cases (show some ((yX9_isReady, cX9_isReady, 3, (some .boolean), RX9, []) : AM) = some q from hq)
  cases (show some ((1060, 129, 2) : Nat × Nat × Nat) = some w from hw)
  exact ⟨ok_84, by decide +kernel⟩
theorem g_one_85 : g_one 85 := fun q w hq hw => by
  cases (show some ((yX9_put, cX9_put, 4, none, RX9, []) : AM) = some q from hq)
  cases (show some ((1099, 129, 3) : Nat × Nat × Nat) = some w from hw)
  exact ⟨ok_85, by decide +kernel⟩
theorem g_one_86 : g_one 86 := fun q w hq hw => by
  cases (show some ((yX9_takeUp, cX9_takeUp, 5, (some .boolean), RX9, []) : AM) = some q from hq)
  cases (show some ((1103, 129, 2) : Nat × Nat × Nat) = some w from hw)
  exact ⟨ok_86, by decide +kernel⟩
theorem g_one_87 : g_one 87 := fun q w hq hw => by
  cases (show some ((yX9_isNeeded, cX9_isNeeded, 4, (some .boolean), RX9, []) : AM) = some q from hq)
  cases (show some ((1108, 129, 2) : Nat × Nat × Nat) = some w from hw)
  exact ⟨ok_87, by decide +kernel⟩
theorem g_one_88 : g_one 88 := fun q w hq hw => by
  cases (show some ((yX9_fetchBack, cX9_fetchBack, 3, (some .boolean), RX9, []) : AM) = some q from hq)
  cases (show some ((1112, 129, 1) : Nat × Nat × Nat) = some w from hw)
  exact ⟨ok_88, by decide +kernel⟩
theorem g_one_89 : g_one 89 := fun q w hq hw => by
  cases (show some ((yX9_endDay, cX9_endDay, 3, (some .boolean), RX9, []) : AM) = some q from hq)
  cases (show some ((1120, 129, 1) : Nat × Nat × Nat) = some w from hw)
  exact ⟨ok_89, by decide +kernel⟩
theorem g_one_90 : g_one 90 := fun q w hq hw => by
  cases (show some ((yX9_kindsNow, cX9_kindsNow, 6, (some .long), RX9, []) : AM) = some q from hq)
  cases (show some ((1124, 129, 1) : Nat × Nat × Nat) = some w from hw)
  exact ⟨ok_90, by decide +kernel⟩
theorem g_one_91 : g_one 91 := fun q w hq hw => by
  cases (show some ((yX9_kindNoted, cX9_kindNoted, 3, (some .int), RX9, []) : AM) = some q from hq)
  cases (show some ((683, 129, 2) : Nat × Nat × Nat) = some w from hw)
  exact ⟨ok_91, by decide +kernel⟩
theorem g_one_92 : g_one 92 := fun q w hq hw => by
  cases (show some ((yX9_mostAlike, cX9_mostAlike, 7, (some .int), RX9, []) : AM) = some q from hq)
  cases (show some ((1439, 129, 2) : Nat × Nat × Nat) = some w from hw)
  exact ⟨ok_92, by decide +kernel⟩
theorem g_one_93 : g_one 93 := fun q w hq hw => by
  cases (show some ((yX9_tiesFrom, cX9_tiesFrom, 6, (some .int), RX9, []) : AM) = some q from hq)
  cases (show some ((614, 129, 3) : Nat × Nat × Nat) = some w from hw)
  exact ⟨ok_93, by decide +kernel⟩
theorem g_one_94 : g_one 94 := fun q w hq hw => by
  cases (show some ((yX10_init, cX10_init, 1, none, RX10, []) : AM) = some q from hq)
  cases (show some ((443, 130, 0) : Nat × Nat × Nat) = some w from hw)
  exact ⟨ok_94, by decide +kernel⟩
theorem g_one_95 : g_one 95 := fun q w hq hw => by
  cases (show some ((yX10_clear, cX10_clear, 1, none, RX10, []) : AM) = some q from hq)
  cases (show some ((798, 130, 0) : Nat × Nat × Nat) = some w from hw)
  exact ⟨ok_95, by decide +kernel⟩
theorem g_one_96 : g_one 96 := fun q w hq hw => by
  cases (show some ((yX10_read, cX10_read, 4, (some .boolean), RX10, []) : AM) = some q from hq)
  cases (show some ((794, 130, 1) : Nat × Nat × Nat) = some w from hw)
  exact ⟨ok_96, by decide +kernel⟩
theorem g_one_97 : g_one 97 := fun q w hq hw => by
  cases (show some ((yX10_readClause, cX10_readClause, 3, (some .boolean), RX10, []) : AM) = some q from hq)
  cases (show some ((870, 130, 2) : Nat × Nat × Nat) = some w from hw)
  exact ⟨ok_97, by decide +kernel⟩
theorem g_one_98 : g_one 98 := fun q w hq hw => by
  cases (show some ((yX10_readWagon, cX10_readWagon, 2, (some .boolean), RX10, []) : AM) = some q from hq)
  cases (show some ((874, 130, 1) : Nat × Nat × Nat) = some w from hw)
  exact ⟨ok_98, by decide +kernel⟩
theorem g_one_99 : g_one 99 := fun q w hq hw => by
  cases (show some ((yX10_readTie, cX10_readTie, 4, (some .boolean), RX10, []) : AM) = some q from hq)
  cases (show some ((890, 130, 1) : Nat × Nat × Nat) = some w from hw)
  exact ⟨ok_99, by decide +kernel⟩
theorem g_one_100 : g_one 100 := fun q w hq hw => by
  cases (show some ((yX10_readNeeds, cX10_readNeeds, 3, (some .boolean), RX10, []) : AM) = some q from hq)
  cases (show some ((894, 130, 1) : Nat × Nat × Nat) = some w from hw)
  exact ⟨ok_100, by decide +kernel⟩
theorem g_one_101 : g_one 101 := fun q w hq hw => by
  cases (show some ((yX10_readGround, cX10_readGround, 3, (some .boolean), RX10, []) : AM) = some q from hq)
  cases (show some ((898, 130, 1) : Nat × Nat × Nat) = some w from hw)
  exact ⟨ok_101, by decide +kernel⟩
theorem g_one_102 : g_one 102 := fun q w hq hw => by
  cases (show some ((yX10_readHours, cX10_readHours, 2, (some .boolean), RX10, []) : AM) = some q from hq)
  cases (show some ((902, 130, 1) : Nat × Nat × Nat) = some w from hw)
  exact ⟨ok_102, by decide +kernel⟩
theorem g_one_103 : g_one 103 := fun q w hq hw => by
  cases (show some ((yX10_readSpeed, cX10_readSpeed, 2, (some .boolean), RX10, []) : AM) = some q from hq)
  cases (show some ((906, 130, 1) : Nat × Nat × Nat) = some w from hw)
  exact ⟨ok_103, by decide +kernel⟩
theorem g_one_104 : g_one 104 := fun q w hq hw => by
  cases (show some ((yX10_readFrost, cX10_readFrost, 2, (some .boolean), RX10, []) : AM) = some q from hq)
  cases (show some ((924, 130, 1) : Nat × Nat × Nat) = some w from hw)
  exact ⟨ok_104, by decide +kernel⟩
theorem g_one_105 : g_one 105 := fun q w hq hw => by
  cases (show some ((yX10_readGang, cX10_readGang, 2, (some .boolean), RX10, []) : AM) = some q from hq)
  cases (show some ((910, 130, 1) : Nat × Nat × Nat) = some w from hw)
  exact ⟨ok_105, by decide +kernel⟩
theorem g_one_106 : g_one 106 := fun q w hq hw => by
  cases (show some ((yX10_readVoter, cX10_readVoter, 5, (some .boolean), RX10, []) : AM) = some q from hq)
  cases (show some ((914, 130, 1) : Nat × Nat × Nat) = some w from hw)
  exact ⟨ok_106, by decide +kernel⟩
theorem g_one_107 : g_one 107 := fun q w hq hw => by
  cases (show some ((yX10_tieOf, cX10_tieOf, 3, (some .int), RX10, []) : AM) = some q from hq)
  cases (show some ((618, 130, 2) : Nat × Nat × Nat) = some w from hw)
  exact ⟨ok_107, by decide +kernel⟩
theorem g_one_108 : g_one 108 := fun q w hq hw => by
  cases (show some ((yX10_likers, cX10_likers, 5, (some .int), RX10, []) : AM) = some q from hq)
  cases (show some ((667, 130, 2) : Nat × Nat × Nat) = some w from hw)
  exact ⟨ok_108, by decide +kernel⟩
theorem g_one_109 : g_one 109 := fun q w hq hw => by
  cases (show some ((yX10_voteWinner, cX10_voteWinner, 3, (some .int), RX10, []) : AM) = some q from hq)
  cases (show some ((1420, 130, 2) : Nat × Nat × Nat) = some w from hw)
  exact ⟨ok_109, by decide +kernel⟩
theorem g_one_110 : g_one 110 := fun q w hq hw => by
  cases (show some ((yX10_agendaWinner, cX10_agendaWinner, 5, (some .int), RX10, []) : AM) = some q from hq)
  cases (show some ((1416, 130, 3) : Nat × Nat × Nat) = some w from hw)
  exact ⟨ok_110, by decide +kernel⟩
theorem g_one_111 : g_one 111 := fun q w hq hw => by
  cases (show some ((yX11_init, cX11_init, 1, none, RX11, []) : AM) = some q from hq)
  cases (show some ((148, 118, 0) : Nat × Nat × Nat) = some w from hw)
  exact ⟨ok_111, by decide +kernel⟩
theorem g_one_112 : g_one 112 := fun q w hq hw => by
  cases (show some ((yX11_feed, cX11_feed, 6, (some .int), RX11, []) : AM) = some q from hq)
  cases (show some ((594, 118, 5) : Nat × Nat × Nat) = some w from hw)
  exact ⟨ok_112, by decide +kernel⟩
theorem g_one_113 : g_one 113 := fun q w hq hw => by
  cases (show some ((yX11_train, cX11_train, 3, (some .int), RX11, []) : AM) = some q from hq)
  cases (show some ((708, 118, 1) : Nat × Nat × Nat) = some w from hw)
  exact ⟨ok_113, by decide +kernel⟩
theorem g_one_114 : g_one 114 := fun q w hq hw => by
  cases (show some ((yX11_law, cX11_law, 2, (some .int), RX11, []) : AM) = some q from hq)
  cases (show some ((967, 118, 1) : Nat × Nat × Nat) = some w from hw)
  exact ⟨ok_114, by decide +kernel⟩
theorem g_one_115 : g_one 115 := fun q w hq hw => by
  cases (show some ((yX11_work, cX11_work, 3, (some .int), RX11, []) : AM) = some q from hq)
  cases (show some ((999, 118, 1) : Nat × Nat × Nat) = some w from hw)
  exact ⟨ok_115, by decide +kernel⟩
theorem g_one_116 : g_one 116 := fun q w hq hw => by
  cases (show some ((yX11_book, cX11_book, 2, (some .int), RX11, []) : AM) = some q from hq)
  cases (show some ((1131, 118, 1) : Nat × Nat × Nat) = some w from hw)
  exact ⟨ok_116, by decide +kernel⟩
theorem g_one_117 : g_one 117 := fun q w hq hw => by
  cases (show some ((yX11_fault, cX11_fault, 1, (some .int), RX11, []) : AM) = some q from hq)
  cases (show some ((602, 118, 0) : Nat × Nat × Nat) = some w from hw)
  exact ⟨ok_117, by decide +kernel⟩
theorem g_one_118 : g_one 118 := fun q w hq hw => by
  cases (show some ((yX11_undo, cX11_undo, 1, (some .int), RX11, []) : AM) = some q from hq)
  cases (show some ((606, 118, 0) : Nat × Nat × Nat) = some w from hw)
  exact ⟨ok_118, by decide +kernel⟩
theorem g_one_119 : g_one 119 := fun q w hq hw => by
  cases (show some ((yX11_told, cX11_told, 2, (some .int), RX11, []) : AM) = some q from hq)
  cases (show some ((1151, 118, 1) : Nat × Nat × Nat) = some w from hw)
  exact ⟨ok_119, by decide +kernel⟩
theorem g_one_120 : g_one 120 := fun q w hq hw => by
  cases (show some ((yX11_wagon, cX11_wagon, 3, (some .int), RX11, []) : AM) = some q from hq)
  cases (show some ((1168, 118, 2) : Nat × Nat × Nat) = some w from hw)
  exact ⟨ok_120, by decide +kernel⟩
theorem g_one_121 : g_one 121 := fun q w hq hw => by
  cases (show some ((yX11_stands, cX11_stands, 2, (some .int), RX11, []) : AM) = some q from hq)
  cases (show some ((1196, 118, 1) : Nat × Nat × Nat) = some w from hw)
  exact ⟨ok_121, by decide +kernel⟩
theorem g_one_122 : g_one 122 := fun q w hq hw => by
  cases (show some ((yX11_ground, cX11_ground, 2, (some .int), RX11, []) : AM) = some q from hq)
  cases (show some ((1207, 118, 1) : Nat × Nat × Nat) = some w from hw)
  exact ⟨ok_122, by decide +kernel⟩
theorem g_one_123 : g_one 123 := fun q w hq hw => by
  cases (show some ((yX11_tie, cX11_tie, 3, (some .int), RX11, []) : AM) = some q from hq)
  cases (show some ((1214, 118, 2) : Nat × Nat × Nat) = some w from hw)
  exact ⟨ok_123, by decide +kernel⟩
theorem g_one_124 : g_one 124 := fun q w hq hw => by
  cases (show some ((yX11_lasts, cX11_lasts, 3, (some .int), RX11, []) : AM) = some q from hq)
  cases (show some ((1222, 118, 2) : Nat × Nat × Nat) = some w from hw)
  exact ⟨ok_124, by decide +kernel⟩
theorem g_one_125 : g_one 125 := fun q w hq hw => by
  cases (show some ((yX11_would, cX11_would, 7, (some .int), RX11, []) : AM) = some q from hq)
  cases (show some ((1230, 118, 6) : Nat × Nat × Nat) = some w from hw)
  exact ⟨ok_125, by decide +kernel⟩
theorem g_one_126 : g_one 126 := fun q w hq hw => by
  cases (show some ((yX11_can, cX11_can, 3, (some .boolean), RX11, []) : AM) = some q from hq)
  cases (show some ((1240, 118, 2) : Nat × Nat × Nat) = some w from hw)
  exact ⟨ok_126, by decide +kernel⟩
theorem g_one_127 : g_one 127 := fun q w hq hw => by
  cases (show some ((yX11_cost, cX11_cost, 5, (some .int), RX11, []) : AM) = some q from hq)
  cases (show some ((610, 118, 0) : Nat × Nat × Nat) = some w from hw)
  exact ⟨ok_127, by decide +kernel⟩
theorem g_one_128 : g_one 128 := fun q w hq hw => by
  cases (show some ((yX11_ties, cX11_ties, 3, (some .int), RX11, []) : AM) = some q from hq)
  cases (show some ((1248, 118, 1) : Nat × Nat × Nat) = some w from hw)
  exact ⟨ok_128, by decide +kernel⟩
theorem g_one_129 : g_one 129 := fun q w hq hw => by
  cases (show some ((yX11_best, cX11_best, 2, (some .int), RX11, []) : AM) = some q from hq)
  cases (show some ((1255, 118, 1) : Nat × Nat × Nat) = some w from hw)
  exact ⟨ok_129, by decide +kernel⟩
theorem g_one_130 : g_one 130 := fun q w hq hw => by
  cases (show some ((yX11_bestAt, cX11_bestAt, 3, (some .int), RX11, []) : AM) = some q from hq)
  cases (show some ((1300, 118, 2) : Nat × Nat × Nat) = some w from hw)
  exact ⟨ok_130, by decide +kernel⟩
theorem g_one_131 : g_one 131 := fun q w hq hw => by
  cases (show some ((yX11_rather, cX11_rather, 7, (some .int), RX11, []) : AM) = some q from hq)
  cases (show some ((1312, 118, 1) : Nat × Nat × Nat) = some w from hw)
  exact ⟨ok_131, by decide +kernel⟩
theorem g_one_132 : g_one 132 := fun q w hq hw => by
  cases (show some ((yX11_load, cX11_load, 1, (some .int), RX11, []) : AM) = some q from hq)
  cases (show some ((625, 118, 0) : Nat × Nat × Nat) = some w from hw)
  exact ⟨ok_132, by decide +kernel⟩
theorem g_one_133 : g_one 133 := fun q w hq hw => by
  cases (show some ((yX11_loaded, cX11_loaded, 2, (some .int), RX11, []) : AM) = some q from hq)
  cases (show some ((1319, 118, 1) : Nat × Nat × Nat) = some w from hw)
  exact ⟨ok_133, by decide +kernel⟩
theorem g_one_134 : g_one 134 := fun q w hq hw => by
  cases (show some ((yX11_shunts, cX11_shunts, 4, (some .int), RX11, []) : AM) = some q from hq)
  cases (show some ((654, 118, 0) : Nat × Nat × Nat) = some w from hw)
  exact ⟨ok_134, by decide +kernel⟩
theorem g_one_135 : g_one 135 := fun q w hq hw => by
  cases (show some ((yX11_crew, cX11_crew, 2, (some .int), RX11, []) : AM) = some q from hq)
  cases (show some ((1326, 118, 1) : Nat × Nat × Nat) = some w from hw)
  exact ⟨ok_135, by decide +kernel⟩
theorem g_one_136 : g_one 136 := fun q w hq hw => by
  cases (show some ((yX11_crewOf, cX11_crewOf, 3, (some .int), RX11, []) : AM) = some q from hq)
  cases (show some ((1349, 118, 2) : Nat × Nat × Nat) = some w from hw)
  exact ⟨ok_136, by decide +kernel⟩
theorem g_one_137 : g_one 137 := fun q w hq hw => by
  cases (show some ((yX11_behind, cX11_behind, 2, (some .int), RX11, []) : AM) = some q from hq)
  cases (show some ((1356, 118, 1) : Nat × Nat × Nat) = some w from hw)
  exact ⟨ok_137, by decide +kernel⟩
theorem g_one_138 : g_one 138 := fun q w hq hw => by
  cases (show some ((yX11_overtakes, cX11_overtakes, 4, (some .int), RX11, []) : AM) = some q from hq)
  cases (show some ((1364, 118, 3) : Nat × Nat × Nat) = some w from hw)
  exact ⟨ok_138, by decide +kernel⟩
theorem g_one_139 : g_one 139 := fun q w hq hw => by
  cases (show some ((yX11_way, cX11_way, 3, (some .int), RX11, []) : AM) = some q from hq)
  cases (show some ((1374, 118, 2) : Nat × Nat × Nat) = some w from hw)
  exact ⟨ok_139, by decide +kernel⟩
theorem g_one_140 : g_one 140 := fun q w hq hw => by
  cases (show some ((yX11_water, cX11_water, 3, (some .int), RX11, []) : AM) = some q from hq)
  cases (show some ((1393, 118, 1) : Nat × Nat × Nat) = some w from hw)
  exact ⟨ok_140, by decide +kernel⟩
theorem g_one_141 : g_one 141 := fun q w hq hw => by
  cases (show some ((yX11_prefer, cX11_prefer, 3, (some .int), RX11, []) : AM) = some q from hq)
  cases (show some ((1400, 118, 2) : Nat × Nat × Nat) = some w from hw)
  exact ⟨ok_141, by decide +kernel⟩
theorem g_one_142 : g_one 142 := fun q w hq hw => by
  cases (show some ((yX11_wins, cX11_wins, 4, (some .int), RX11, []) : AM) = some q from hq)
  cases (show some ((1412, 118, 3) : Nat × Nat × Nat) = some w from hw)
  exact ⟨ok_142, by decide +kernel⟩
theorem g_one_143 : g_one 143 := fun q w hq hw => by
  cases (show some ((yX11_agendas, cX11_agendas, 6, (some .int), RX11, []) : AM) = some q from hq)
  cases (show some ((1428, 118, 2) : Nat × Nat × Nat) = some w from hw)
  exact ⟨ok_143, by decide +kernel⟩
theorem g_one_144 : g_one 144 := fun q w hq hw => by
  cases (show some ((yX11_beats, cX11_beats, 4, (some .int), RX11, []) : AM) = some q from hq)
  cases (show some ((663, 118, 0) : Nat × Nat × Nat) = some w from hw)
  exact ⟨ok_144, by decide +kernel⟩
theorem g_one_145 : g_one 145 := fun q w hq hw => by
  cases (show some ((yX11_fits, cX11_fits, 1, (some .int), RX11, []) : AM) = some q from hq)
  cases (show some ((671, 118, 0) : Nat × Nat × Nat) = some w from hw)
  exact ⟨ok_145, by decide +kernel⟩
theorem g_one_146 : g_one 146 := fun q w hq hw => by
  cases (show some ((yX11_look, cX11_look, 7, (some .int), RX11, []) : AM) = some q from hq)
  cases (show some ((1435, 118, 1) : Nat × Nat × Nat) = some w from hw)
  exact ⟨ok_146, by decide +kernel⟩
theorem g_one_147 : g_one 147 := fun q w hq hw => by
  cases (show some ((yX11_stood, cX11_stood, 3, (some .int), RX11, []) : AM) = some q from hq)
  cases (show some ((1447, 118, 2) : Nat × Nat × Nat) = some w from hw)
  exact ⟨ok_147, by decide +kernel⟩
theorem g_one_148 : g_one 148 := fun q w hq hw => by
  cases (show some ((yX11_mild, cX11_mild, 8, (some .long), RX11, []) : AM) = some q from hq)
  cases (show some ((1455, 118, 2) : Nat × Nat × Nat) = some w from hw)
  exact ⟨ok_148, by decide +kernel⟩
theorem g_one_149 : g_one 149 := fun q w hq hw => by
  cases (show some ((yX11_ahead, cX11_ahead, 10, (some .long), RX11, []) : AM) = some q from hq)
  cases (show some ((1466, 118, 2) : Nat × Nat × Nat) = some w from hw)
  exact ⟨ok_149, by decide +kernel⟩
theorem g_one_150 : g_one 150 := fun q w hq hw => by
  cases (show some ((yX11_season, cX11_season, 4, (some .int), RX11, []) : AM) = some q from hq)
  cases (show some ((1473, 118, 3) : Nat × Nat × Nat) = some w from hw)
  exact ⟨ok_150, by decide +kernel⟩
theorem g_one_151 : g_one 151 := fun q w hq hw => by
  cases (show some ((yX11_span, cX11_span, 12, (some .int), RX11, []) : AM) = some q from hq)
  cases (show some ((1495, 118, 5) : Nat × Nat × Nat) = some w from hw)
  exact ⟨ok_151, by decide +kernel⟩
theorem g_one_152 : g_one 152 := fun q w hq hw => by
  cases (show some ((yX11_image, cX11_image, 1, (some .int), RX11, []) : AM) = some q from hq)
  cases (show some ((688, 118, 0) : Nat × Nat × Nat) = some w from hw)
  exact ⟨ok_152, by decide +kernel⟩
theorem g_one_153 : g_one 153 := fun q w hq hw => by
  cases (show some ((yX11_restore, cX11_restore, 2, (some .int), RX11, []) : AM) = some q from hq)
  cases (show some ((692, 118, 0) : Nat × Nat × Nat) = some w from hw)
  exact ⟨ok_153, by decide +kernel⟩
theorem g_one_154 : g_one 154 := fun q w hq hw => by
  cases (show some ((yX11_status, cX11_status, 2, (some .int), RX11, []) : AM) = some q from hq)
  cases (show some ((696, 118, 1) : Nat × Nat × Nat) = some w from hw)
  exact ⟨ok_154, by decide +kernel⟩
theorem g_one_155 : g_one 155 := fun q w hq hw => by
  cases (show some ((yX11_count, cX11_count, 2, (some .int), RX11, []) : AM) = some q from hq)
  cases (show some ((700, 118, 1) : Nat × Nat × Nat) = some w from hw)
  exact ⟨ok_155, by decide +kernel⟩
theorem g_one_156 : g_one 156 := fun q w hq hw => by
  cases (show some ((yX11_seedsDiffer, cX11_seedsDiffer, 1, (some .boolean), RX11, []) : AM) = some q from hq)
  cases (show some ((1499, 118, 0) : Nat × Nat × Nat) = some w from hw)
  exact ⟨ok_156, by decide +kernel⟩
theorem g_one_157 : g_one 157 := fun q w hq hw => by
  cases (show some ((yX11_openText, cX11_openText, 3, none, RX11, []) : AM) = some q from hq)
  cases (show some ((712, 118, 2) : Nat × Nat × Nat) = some w from hw)
  exact ⟨ok_157, by decide +kernel⟩
theorem g_one_158 : g_one 158 := fun q w hq hw => by
  cases (show some ((yX11_forgetImages, cX11_forgetImages, 2, none, RX11, []) : AM) = some q from hq)
  cases (show some ((960, 118, 0) : Nat × Nat × Nat) = some w from hw)
  exact ⟨ok_158, by decide +kernel⟩
theorem g_one_159 : g_one 159 := fun q w hq hw => by
  cases (show some ((yX11_needRange, cX11_needRange, 4, none, RX11, []) : AM) = some q from hq)
  cases (show some ((719, 118, 3) : Nat × Nat × Nat) = some w from hw)
  exact ⟨ok_159, by decide +kernel⟩
theorem g_one_160 : g_one 160 := fun q w hq hw => by
  cases (show some ((yX11_needCell, cX11_needCell, 2, none, RX11, []) : AM) = some q from hq)
  cases (show some ((1200, 118, 1) : Nat × Nat × Nat) = some w from hw)
  exact ⟨ok_160, by decide +kernel⟩
theorem g_one_161 : g_one 161 := fun q w hq hw => by
  cases (show some ((yX11_needBits, cX11_needBits, 2, none, RX11, []) : AM) = some q from hq)
  cases (show some ((1263, 118, 1) : Nat × Nat × Nat) = some w from hw)
  exact ⟨ok_161, by decide +kernel⟩
theorem g_one_162 : g_one 162 := fun q w hq hw => by
  cases (show some ((yX11_needFew, cX11_needFew, 2, none, RX11, []) : AM) = some q from hq)
  cases (show some ((1259, 118, 1) : Nat × Nat × Nat) = some w from hw)
  exact ⟨ok_162, by decide +kernel⟩
theorem g_one_163 : g_one 163 := fun q w hq hw => by
  cases (show some ((yX11_needTwoPlans, cX11_needTwoPlans, 3, none, RX11, []) : AM) = some q from hq)
  cases (show some ((1404, 118, 2) : Nat × Nat × Nat) = some w from hw)
  exact ⟨ok_163, by decide +kernel⟩
theorem g_one_164 : g_one 164 := fun q w hq hw => by
  cases (show some ((yX11_needWagon, cX11_needWagon, 2, none, RX11, []) : AM) = some q from hq)
  cases (show some ((1172, 118, 1) : Nat × Nat × Nat) = some w from hw)
  exact ⟨ok_164, by decide +kernel⟩
theorem g_one_165 : g_one 165 := fun q w hq hw => by
  cases (show some ((yX11_leastTerms, cX11_leastTerms, 12, (some .long), RX11, []) : AM) = some q from hq)
  cases (show some ((1459, 118, 3) : Nat × Nat × Nat) = some w from hw)
  exact ⟨ok_165, by decide +kernel⟩
theorem g_one_166 : g_one 166 := fun q w hq hw => by
  cases (show some ((yX12_thrown, cX12_thrown, 1, (some .int), RX12, []) : AM) = some q from hq)
  cases (show some ((1504, 132, 0) : Nat × Nat × Nat) = some w from hw)
  exact ⟨ok_166, by decide +kernel⟩
theorem g_one_167 : g_one 167 := fun q w hq hw => by
  cases (show some ((yX12_may, cX12_may, 4, (some .boolean), RX12, []) : AM) = some q from hq)
  cases (show some ((1770, 132, 3) : Nat × Nat × Nat) = some w from hw)
  exact ⟨ok_167, by decide +kernel⟩
theorem g_one_168 : g_one 168 := fun q w hq hw => by
  cases (show some ((yX12_within, cX12_within, 3, (some .boolean), RX12, []) : AM) = some q from hq)
  cases (show some ((1983, 132, 3) : Nat × Nat × Nat) = some w from hw)
  exact ⟨ok_168, by decide +kernel⟩
theorem g_one_169 : g_one 169 := fun q w hq hw => by
  cases (show some ((yX12_init, cX12_init, 1, none, RX12, []) : AM) = some q from hq)
  cases (show some ((1509, 132, 0) : Nat × Nat × Nat) = some w from hw)
  exact ⟨ok_169, by decide +kernel⟩
theorem g_one_170 : g_one 170 := fun q w hq hw => by
  cases (show some ((yX12_feed, cX12_feed, 8, (some .int), RX12, []) : AM) = some q from hq)
  cases (show some ((1758, 132, 5) : Nat × Nat × Nat) = some w from hw)
  exact ⟨ok_170, by decide +kernel⟩
theorem g_one_171 : g_one 171 := fun q w hq hw => by
  cases (show some ((yX12_fine, cX12_fine, 1, (some .boolean), RX12, []) : AM) = some q from hq)
  cases (show some ((1778, 132, 0) : Nat × Nat × Nat) = some w from hw)
  exact ⟨ok_171, by decide +kernel⟩
theorem g_one_172 : g_one 172 := fun q w hq hw => by
  cases (show some ((yX12_wrong, cX12_wrong, 3, none, RX12, []) : AM) = some q from hq)
  cases (show some ((1815, 132, 2) : Nat × Nat × Nat) = some w from hw)
  exact ⟨ok_172, by decide +kernel⟩
theorem g_one_173 : g_one 173 := fun q w hq hw => by
  cases (show some ((yX12_here, cX12_here, 1, (some .int), RX12, []) : AM) = some q from hq)
  cases (show some ((1786, 132, 0) : Nat × Nat × Nat) = some w from hw)
  exact ⟨ok_173, by decide +kernel⟩
theorem g_one_174 : g_one 174 := fun q w hq hw => by
  cases (show some ((yX12_isSmall, cX12_isSmall, 1, (some .boolean), RX12, []) : AM) = some q from hq)
  cases (show some ((1793, 132, 1) : Nat × Nat × Nat) = some w from hw)
  exact ⟨ok_174, by decide +kernel⟩
theorem g_one_175 : g_one 175 := fun q w hq hw => by
  cases (show some ((yX12_isDigit, cX12_isDigit, 1, (some .boolean), RX12, []) : AM) = some q from hq)
  cases (show some ((1838, 132, 1) : Nat × Nat × Nat) = some w from hw)
  exact ⟨ok_175, by decide +kernel⟩
theorem g_one_176 : g_one 176 := fun q w hq hw => by
  cases (show some ((yX12_word, cX12_word, 4, (some .int), RX12, []) : AM) = some q from hq)
  cases (show some ((1790, 132, 0) : Nat × Nat × Nat) = some w from hw)
  exact ⟨ok_176, by decide +kernel⟩
theorem g_one_177 : g_one 177 := fun q w hq hw => by
  cases (show some ((yX12_of, cX12_of, 3, (some .int), RX12, []) : AM) = some q from hq)
  cases (show some ((1800, 132, 1) : Nat × Nat × Nat) = some w from hw)
  exact ⟨ok_177, by decide +kernel⟩
theorem g_one_178 : g_one 178 := fun q w hq hw => by
  cases (show some ((yX12_pass, cX12_pass, 1, none, RX12, []) : AM) = some q from hq)
  cases (show some ((1823, 132, 0) : Nat × Nat × Nat) = some w from hw)
  exact ⟨ok_178, by decide +kernel⟩
theorem g_one_179 : g_one 179 := fun q w hq hw => by
  cases (show some ((yX12_readNumber, cX12_readNumber, 6, (some .int), RX12, []) : AM) = some q from hq)
  cases (show some ((1835, 132, 2) : Nat × Nat × Nat) = some w from hw)
  exact ⟨ok_179, by decide +kernel⟩
theorem g_one_180 : g_one 180 := fun q w hq hw => by
  cases (show some ((yX12_sign, cX12_sign, 2, none, RX12, []) : AM) = some q from hq)
  cases (show some ((1850, 132, 1) : Nat × Nat × Nat) = some w from hw)
  exact ⟨ok_180, by decide +kernel⟩
theorem g_one_181 : g_one 181 := fun q w hq hw => by
  cases (show some ((yX12_isMore, cX12_isMore, 1, (some .boolean), RX12, []) : AM) = some q from hq)
  cases (show some ((1782, 132, 0) : Nat × Nat × Nat) = some w from hw)
  exact ⟨ok_181, by decide +kernel⟩
theorem g_one_182 : g_one 182 := fun q w hq hw => by
  cases (show some ((yX12_begins, cX12_begins, 2, none, RX12, []) : AM) = some q from hq)
  cases (show some ((1774, 132, 1) : Nat × Nat × Nat) = some w from hw)
  exact ⟨ok_182, by decide +kernel⟩
theorem g_one_183 : g_one 183 := fun q w hq hw => by
  cases (show some ((yX12_result, cX12_result, 2, (some .int), RX12, []) : AM) = some q from hq)
  cases (show some ((1854, 132, 1) : Nat × Nat × Nat) = some w from hw)
  exact ⟨ok_183, by decide +kernel⟩
theorem g_one_184 : g_one 184 := fun q w hq hw => by
  cases (show some ((yX12_fault, cX12_fault, 1, (some .int), RX12, []) : AM) = some q from hq)
  cases (show some ((1762, 132, 0) : Nat × Nat × Nat) = some w from hw)
  exact ⟨ok_184, by decide +kernel⟩
theorem g_one_185 : g_one 185 := fun q w hq hw => by
  cases (show some ((yX12_clears, cX12_clears, 2, none, RX12, []) : AM) = some q from hq)
  cases (show some ((1514, 132, 0) : Nat × Nat × Nat) = some w from hw)
  exact ⟨ok_185, by decide +kernel⟩
theorem g_one_186 : g_one 186 := fun q w hq hw => by
  cases (show some ((yX12_copies, cX12_copies, 5, none, RX12, []) : AM) = some q from hq)
  cases (show some ((1522, 132, 3) : Nat × Nat × Nat) = some w from hw)
  exact ⟨ok_186, by decide +kernel⟩
theorem g_one_187 : g_one 187 := fun q w hq hw => by
  cases (show some ((yX12_sets, cX12_sets, 2, none, RX12, []) : AM) = some q from hq)
  cases (show some ((1518, 132, 0) : Nat × Nat × Nat) = some w from hw)
  exact ⟨ok_187, by decide +kernel⟩
theorem g_one_188 : g_one 188 := fun q w hq hw => by
  cases (show some ((yX12_readWagon, cX12_readWagon, 2, none, RX12, []) : AM) = some q from hq)
  cases (show some ((1831, 132, 0) : Nat × Nat × Nat) = some w from hw)
  exact ⟨ok_188, by decide +kernel⟩
theorem g_one_189 : g_one 189 := fun q w hq hw => by
  cases (show some ((yX12_readTie, cX12_readTie, 5, none, RX12, []) : AM) = some q from hq)
  cases (show some ((1842, 132, 0) : Nat × Nat × Nat) = some w from hw)
  exact ⟨ok_189, by decide +kernel⟩
theorem g_one_190 : g_one 190 := fun q w hq hw => by
  cases (show some ((yX12_readVoter, cX12_readVoter, 6, none, RX12, []) : AM) = some q from hq)
  cases (show some ((1846, 132, 0) : Nat × Nat × Nat) = some w from hw)
  exact ⟨ok_190, by decide +kernel⟩
theorem g_one_191 : g_one 191 := fun q w hq hw => by
  cases (show some ((yX12_readRow, cX12_readRow, 4, none, RX12, []) : AM) = some q from hq)
  cases (show some ((1827, 132, 1) : Nat × Nat × Nat) = some w from hw)
  exact ⟨ok_191, by decide +kernel⟩
theorem g_one_192 : g_one 192 := fun q w hq hw => by
  cases (show some ((yX12_isRow, cX12_isRow, 1, (some .boolean), RX12, []) : AM) = some q from hq)
  cases (show some ((1796, 132, 1) : Nat × Nat × Nat) = some w from hw)
  exact ⟨ok_192, by decide +kernel⟩
theorem g_one_193 : g_one 193 := fun q w hq hw => by
  cases (show some ((yX12_isFull, cX12_isFull, 2, (some .boolean), RX12, []) : AM) = some q from hq)
  cases (show some ((1819, 132, 1) : Nat × Nat × Nat) = some w from hw)
  exact ⟨ok_193, by decide +kernel⟩
theorem g_one_194 : g_one 194 := fun q w hq hw => by
  cases (show some ((yX12_train, cX12_train, 4, (some .int), RX12, []) : AM) = some q from hq)
  cases (show some ((1766, 132, 1) : Nat × Nat × Nat) = some w from hw)
  exact ⟨ok_194, by decide +kernel⟩
theorem g_one_195 : g_one 195 := fun q w hq hw => by
  cases (show some ((yX12_emit, cX12_emit, 3, none, RX12, []) : AM) = some q from hq)
  cases (show some ((1878, 132, 2) : Nat × Nat × Nat) = some w from hw)
  exact ⟨ok_195, by decide +kernel⟩
theorem g_one_196 : g_one 196 := fun q w hq hw => by
  cases (show some ((yX12_opensOne, cX12_opensOne, 2, none, RX12, []) : AM) = some q from hq)
  cases (show some ((1874, 132, 1) : Nat × Nat × Nat) = some w from hw)
  exact ⟨ok_196, by decide +kernel⟩
theorem g_one_197 : g_one 197 := fun q w hq hw => by
  cases (show some ((yX12_readSum, cX12_readSum, 2, none, RX12, []) : AM) = some q from hq)
  cases (show some ((1862, 132, 0) : Nat × Nat × Nat) = some w from hw)
  exact ⟨ok_197, by decide +kernel⟩
theorem g_one_198 : g_one 198 := fun q w hq hw => by
  cases (show some ((yX12_readProduct, cX12_readProduct, 2, none, RX12, []) : AM) = some q from hq)
  cases (show some ((1866, 132, 0) : Nat × Nat × Nat) = some w from hw)
  exact ⟨ok_198, by decide +kernel⟩
theorem g_one_199 : g_one 199 := fun q w hq hw => by
  cases (show some ((yX12_readTwo, cX12_readTwo, 3, none, RX12, []) : AM) = some q from hq)
  cases (show some ((1883, 132, 2) : Nat × Nat × Nat) = some w from hw)
  exact ⟨ok_199, by decide +kernel⟩
theorem g_one_200 : g_one 200 := fun q w hq hw => by
  cases (show some ((yX12_factHere, cX12_factHere, 2, (some .int), RX12, []) : AM) = some q from hq)
  cases (show some ((1888, 132, 0) : Nat × Nat × Nat) = some w from hw)
  exact ⟨ok_200, by decide +kernel⟩
theorem g_one_201 : g_one 201 := fun q w hq hw => by
  cases (show some ((yX12_readUnit, cX12_readUnit, 2, none, RX12, []) : AM) = some q from hq)
  cases (show some ((1870, 132, 0) : Nat × Nat × Nat) = some w from hw)
  exact ⟨ok_201, by decide +kernel⟩
theorem g_one_202 : g_one 202 := fun q w hq hw => by
  cases (show some ((yX12_law, cX12_law, 3, (some .int), RX12, []) : AM) = some q from hq)
  cases (show some ((1858, 132, 1) : Nat × Nat × Nat) = some w from hw)
  exact ⟨ok_202, by decide +kernel⟩
theorem g_one_203 : g_one 203 := fun q w hq hw => by
  cases (show some ((yX12_valueNow, cX12_valueNow, 4, (some .int), RX12, []) : AM) = some q from hq)
  cases (show some ((1953, 132, 0) : Nat × Nat × Nat) = some w from hw)
  exact ⟨ok_203, by decide +kernel⟩
theorem g_one_204 : g_one 204 := fun q w hq hw => by
  cases (show some ((yX12_both, cX12_both, 3, (some .int), RX12, []) : AM) = some q from hq)
  cases (show some ((1956, 132, 3) : Nat × Nat × Nat) = some w from hw)
  exact ⟨ok_204, by decide +kernel⟩
theorem g_one_205 : g_one 205 := fun q w hq hw => by
  cases (show some ((yX12_lastsNow, cX12_lastsNow, 2, (some .int), RX12, []) : AM) = some q from hq)
  cases (show some ((1949, 132, 0) : Nat × Nat × Nat) = some w from hw)
  exact ⟨ok_205, by decide +kernel⟩
theorem g_one_206 : g_one 206 := fun q w hq hw => by
  cases (show some ((yX12_tellsStep, cX12_tellsStep, 4, none, RX12, []) : AM) = some q from hq)
  cases (show some ((1910, 132, 3) : Nat × Nat × Nat) = some w from hw)
  exact ⟨ok_206, by decide +kernel⟩
theorem g_one_207 : g_one 207 := fun q w hq hw => by
  cases (show some ((yX12_readOne, cX12_readOne, 1, (some .int), RX12, []) : AM) = some q from hq)
  cases (show some ((1906, 132, 0) : Nat × Nat × Nat) = some w from hw)
  exact ⟨ok_207, by decide +kernel⟩
theorem g_one_208 : g_one 208 := fun q w hq hw => by
  cases (show some ((yX12_readStep, cX12_readStep, 4, none, RX12, []) : AM) = some q from hq)
  cases (show some ((1901, 132, 0) : Nat × Nat × Nat) = some w from hw)
  exact ⟨ok_208, by decide +kernel⟩
theorem g_one_209 : g_one 209 := fun q w hq hw => by
  cases (show some ((yX12_work, cX12_work, 4, (some .int), RX12, []) : AM) = some q from hq)
  cases (show some ((1897, 132, 1) : Nat × Nat × Nat) = some w from hw)
  exact ⟨ok_209, by decide +kernel⟩
theorem g_one_210 : g_one 210 := fun q w hq hw => by
  cases (show some ((yX12_goesSteps, cX12_goesSteps, 6, none, RX12, []) : AM) = some q from hq)
  cases (show some ((1921, 132, 2) : Nat × Nat × Nat) = some w from hw)
  exact ⟨ok_210, by decide +kernel⟩
theorem g_one_211 : g_one 211 := fun q w hq hw => by
  cases (show some ((yX12_take, cX12_take, 1, none, RX12, []) : AM) = some q from hq)
  cases (show some ((1917, 132, 0) : Nat × Nat × Nat) = some w from hw)
  exact ⟨ok_211, by decide +kernel⟩
theorem g_one_212 : g_one 212 := fun q w hq hw => by
  cases (show some ((yX12_standing, cX12_standing, 3, (some .int), RX12, []) : AM) = some q from hq)
  cases (show some ((1933, 132, 1) : Nat × Nat × Nat) = some w from hw)
  exact ⟨ok_212, by decide +kernel⟩
theorem g_one_213 : g_one 213 := fun q w hq hw => by
  cases (show some ((yX12_lastsOf, cX12_lastsOf, 3, (some .int), RX12, []) : AM) = some q from hq)
  cases (show some ((1945, 132, 2) : Nat × Nat × Nat) = some w from hw)
  exact ⟨ok_213, by decide +kernel⟩
theorem g_one_214 : g_one 214 := fun q w hq hw => by
  cases (show some ((yX12_canLay, cX12_canLay, 4, (some .boolean), RX12, []) : AM) = some q from hq)
  cases (show some ((1941, 132, 2) : Nat × Nat × Nat) = some w from hw)
  exact ⟨ok_214, by decide +kernel⟩
theorem g_one_215 : g_one 215 := fun q w hq hw => by
  cases (show some ((yX12_laysOne, cX12_laysOne, 3, (some .boolean), RX12, []) : AM) = some q from hq)
  cases (show some ((1937, 132, 2) : Nat × Nat × Nat) = some w from hw)
  exact ⟨ok_215, by decide +kernel⟩
theorem g_one_216 : g_one 216 := fun q w hq hw => by
  cases (show some ((yX12_takesOne, cX12_takesOne, 4, (some .boolean), RX12, []) : AM) = some q from hq)
  cases (show some ((1960, 132, 1) : Nat × Nat × Nat) = some w from hw)
  exact ⟨ok_216, by decide +kernel⟩
theorem g_one_217 : g_one 217 := fun q w hq hw => by
  cases (show some ((yX12_behindOf, cX12_behindOf, 2, (some .int), RX12, []) : AM) = some q from hq)
  cases (show some ((1968, 132, 1) : Nat × Nat × Nat) = some w from hw)
  exact ⟨ok_217, by decide +kernel⟩
theorem g_one_218 : g_one 218 := fun q w hq hw => by
  cases (show some ((yX12_fetchesOne, cX12_fetchesOne, 3, (some .boolean), RX12, []) : AM) = some q from hq)
  cases (show some ((1964, 132, 1) : Nat × Nat × Nat) = some w from hw)
  exact ⟨ok_218, by decide +kernel⟩
theorem g_one_219 : g_one 219 := fun q w hq hw => by
  cases (show some ((yX12_goesNext, cX12_goesNext, 3, (some .boolean), RX12, []) : AM) = some q from hq)
  cases (show some ((1929, 132, 0) : Nat × Nat × Nat) = some w from hw)
  exact ⟨ok_219, by decide +kernel⟩
theorem g_one_220 : g_one 220 := fun q w hq hw => by
  cases (show some ((yX12_goes, cX12_goes, 4, (some .boolean), RX12, []) : AM) = some q from hq)
  cases (show some ((1925, 132, 3) : Nat × Nat × Nat) = some w from hw)
  exact ⟨ok_220, by decide +kernel⟩
theorem g_one_221 : g_one 221 := fun q w hq hw => by
  cases (show some ((yX12_many, cX12_many, 4, (some .int), RX12, []) : AM) = some q from hq)
  cases (show some ((1987, 132, 1) : Nat × Nat × Nat) = some w from hw)
  exact ⟨ok_221, by decide +kernel⟩
theorem g_one_222 : g_one 222 := fun q w hq hw => by
  cases (show some ((yX12_book, cX12_book, 6, (some .int), RX12, []) : AM) = some q from hq)
  cases (show some ((1972, 132, 1) : Nat × Nat × Nat) = some w from hw)
  exact ⟨ok_222, by decide +kernel⟩
theorem g_one_223 : g_one 223 := fun q w hq hw => by
  cases (show some ((yX12_undo, cX12_undo, 2, (some .int), RX12, []) : AM) = some q from hq)
  cases (show some ((1976, 132, 0) : Nat × Nat × Nat) = some w from hw)
  exact ⟨ok_223, by decide +kernel⟩
theorem g_one_224 : g_one 224 := fun q w hq hw => by
  cases (show some ((yX12_told, cX12_told, 2, (some .int), RX12, []) : AM) = some q from hq)
  cases (show some ((1980, 132, 1) : Nat × Nat × Nat) = some w from hw)
  exact ⟨ok_224, by decide +kernel⟩
theorem g_one_225 : g_one 225 := fun q w hq hw => by
  cases (show some ((yX12_isWagon, cX12_isWagon, 3, (some .boolean), RX12, []) : AM) = some q from hq)
  cases (show some ((1995, 132, 2) : Nat × Nat × Nat) = some w from hw)
  exact ⟨ok_225, by decide +kernel⟩
theorem g_one_226 : g_one 226 := fun q w hq hw => by
  cases (show some ((yX12_isCell, cX12_isCell, 1, (some .boolean), RX12, []) : AM) = some q from hq)
  cases (show some ((2002, 132, 1) : Nat × Nat × Nat) = some w from hw)
  exact ⟨ok_226, by decide +kernel⟩
theorem g_one_227 : g_one 227 := fun q w hq hw => by
  cases (show some ((yX12_wagon, cX12_wagon, 3, (some .int), RX12, []) : AM) = some q from hq)
  cases (show some ((1991, 132, 2) : Nat × Nat × Nat) = some w from hw)
  exact ⟨ok_227, by decide +kernel⟩
theorem g_one_228 : g_one 228 := fun q w hq hw => by
  cases (show some ((yX12_stands, cX12_stands, 2, (some .int), RX12, []) : AM) = some q from hq)
  cases (show some ((1999, 132, 1) : Nat × Nat × Nat) = some w from hw)
  exact ⟨ok_228, by decide +kernel⟩
theorem g_one_229 : g_one 229 := fun q w hq hw => by
  cases (show some ((yX12_ground, cX12_ground, 2, (some .int), RX12, []) : AM) = some q from hq)
  cases (show some ((2006, 132, 1) : Nat × Nat × Nat) = some w from hw)
  exact ⟨ok_229, by decide +kernel⟩
theorem g_one_230 : g_one 230 := fun q w hq hw => by
  cases (show some ((yX12_tie, cX12_tie, 3, (some .int), RX12, []) : AM) = some q from hq)
  cases (show some ((2010, 132, 2) : Nat × Nat × Nat) = some w from hw)
  exact ⟨ok_230, by decide +kernel⟩
theorem g_one_231 : g_one 231 := fun q w hq hw => by
  cases (show some ((yX12_lasts, cX12_lasts, 3, (some .int), RX12, []) : AM) = some q from hq)
  cases (show some ((2014, 132, 2) : Nat × Nat × Nat) = some w from hw)
  exact ⟨ok_231, by decide +kernel⟩
theorem g_one_232 : g_one 232 := fun q w hq hw => by
  cases (show some ((yX12_would, cX12_would, 7, (some .int), RX12, []) : AM) = some q from hq)
  cases (show some ((2018, 132, 6) : Nat × Nat × Nat) = some w from hw)
  exact ⟨ok_232, by decide +kernel⟩
theorem g_one_233 : g_one 233 := fun q w hq hw => by
  cases (show some ((yX12_can, cX12_can, 3, (some .boolean), RX12, []) : AM) = some q from hq)
  cases (show some ((2022, 132, 2) : Nat × Nat × Nat) = some w from hw)
  exact ⟨ok_233, by decide +kernel⟩
theorem g_one_234 : g_one 234 := fun q w hq hw => by
  cases (show some ((yX12_takesCells, cX12_takesCells, 2, none, RX12, []) : AM) = some q from hq)
  cases (show some ((2030, 132, 0) : Nat × Nat × Nat) = some w from hw)
  exact ⟨ok_234, by decide +kernel⟩
theorem g_one_235 : g_one 235 := fun q w hq hw => by
  cases (show some ((yX12_tiesOf, cX12_tiesOf, 4, (some .int), RX12, []) : AM) = some q from hq)
  cases (show some ((2038, 132, 1) : Nat × Nat × Nat) = some w from hw)
  exact ⟨ok_235, by decide +kernel⟩
theorem g_one_236 : g_one 236 := fun q w hq hw => by
  cases (show some ((yX12_costNow, cX12_costNow, 4, (some .int), RX12, []) : AM) = some q from hq)
  cases (show some ((2034, 132, 0) : Nat × Nat × Nat) = some w from hw)
  exact ⟨ok_236, by decide +kernel⟩
theorem g_one_237 : g_one 237 := fun q w hq hw => by
  cases (show some ((yX12_cost, cX12_cost, 1, (some .int), RX12, []) : AM) = some q from hq)
  cases (show some ((2026, 132, 0) : Nat × Nat × Nat) = some w from hw)
  exact ⟨ok_237, by decide +kernel⟩
theorem g_one_238 : g_one 238 := fun q w hq hw => by
  cases (show some ((yX12_ties, cX12_ties, 2, (some .int), RX12, []) : AM) = some q from hq)
  cases (show some ((2042, 132, 1) : Nat × Nat × Nat) = some w from hw)
  exact ⟨ok_238, by decide +kernel⟩
theorem g_one_239 : g_one 239 := fun q w hq hw => by
  cases (show some ((yX12_townsOn, cX12_townsOn, 6, none, RX12, []) : AM) = some q from hq)
  cases (show some ((2055, 132, 4) : Nat × Nat × Nat) = some w from hw)
  exact ⟨ok_239, by decide +kernel⟩
theorem g_one_240 : g_one 240 := fun q w hq hw => by
  cases (show some ((yX12_findBest, cX12_findBest, 5, (some .boolean), RX12, []) : AM) = some q from hq)
  cases (show some ((2050, 132, 2) : Nat × Nat × Nat) = some w from hw)
  exact ⟨ok_240, by decide +kernel⟩
theorem g_one_241 : g_one 241 := fun q w hq hw => by
  cases (show some ((yX12_best, cX12_best, 2, (some .int), RX12, []) : AM) = some q from hq)
  cases (show some ((2046, 132, 1) : Nat × Nat × Nat) = some w from hw)
  exact ⟨ok_241, by decide +kernel⟩
theorem g_one_242 : g_one 242 := fun q w hq hw => by
  cases (show some ((yX12_bestAt, cX12_bestAt, 3, (some .int), RX12, []) : AM) = some q from hq)
  cases (show some ((2059, 132, 2) : Nat × Nat × Nat) = some w from hw)
  exact ⟨ok_242, by decide +kernel⟩
theorem g_one_243 : g_one 243 := fun q w hq hw => by
  cases (show some ((yX12_rather, cX12_rather, 5, (some .int), RX12, []) : AM) = some q from hq)
  cases (show some ((2063, 132, 1) : Nat × Nat × Nat) = some w from hw)
  exact ⟨ok_243, by decide +kernel⟩
theorem g_one_244 : g_one 244 := fun q w hq hw => by
  cases (show some ((yX12_mayFollow, cX12_mayFollow, 3, (some .boolean), RX12, []) : AM) = some q from hq)
  cases (show some ((2075, 132, 2) : Nat × Nat × Nat) = some w from hw)
  exact ⟨ok_244, by decide +kernel⟩
theorem g_one_245 : g_one 245 := fun q w hq hw => by
  cases (show some ((yX12_ones, cX12_ones, 4, (some .int), RX12, []) : AM) = some q from hq)
  cases (show some ((2079, 132, 1) : Nat × Nat × Nat) = some w from hw)
  exact ⟨ok_245, by decide +kernel⟩
theorem g_one_246 : g_one 246 := fun q w hq hw => by
  cases (show some ((yX12_findLoad, cX12_findLoad, 6, none, RX12, []) : AM) = some q from hq)
  cases (show some ((2071, 132, 0) : Nat × Nat × Nat) = some w from hw)
  exact ⟨ok_246, by decide +kernel⟩
theorem g_one_247 : g_one 247 := fun q w hq hw => by
  cases (show some ((yX12_load, cX12_load, 1, (some .int), RX12, []) : AM) = some q from hq)
  cases (show some ((2067, 132, 0) : Nat × Nat × Nat) = some w from hw)
  exact ⟨ok_247, by decide +kernel⟩
theorem g_one_248 : g_one 248 := fun q w hq hw => by
  cases (show some ((yX12_loaded, cX12_loaded, 2, (some .int), RX12, []) : AM) = some q from hq)
  cases (show some ((2083, 132, 1) : Nat × Nat × Nat) = some w from hw)
  exact ⟨ok_248, by decide +kernel⟩
theorem g_one_249 : g_one 249 := fun q w hq hw => by
  cases (show some ((yX12_shunts, cX12_shunts, 4, (some .int), RX12, []) : AM) = some q from hq)
  cases (show some ((2087, 132, 0) : Nat × Nat × Nat) = some w from hw)
  exact ⟨ok_249, by decide +kernel⟩
theorem g_one_250 : g_one 250 := fun q w hq hw => by
  cases (show some ((yX12_crewsOn, cX12_crewsOn, 6, none, RX12, []) : AM) = some q from hq)
  cases (show some ((2099, 132, 2) : Nat × Nat × Nat) = some w from hw)
  exact ⟨ok_250, by decide +kernel⟩
theorem g_one_251 : g_one 251 := fun q w hq hw => by
  cases (show some ((yX12_findCrew, cX12_findCrew, 4, (some .boolean), RX12, []) : AM) = some q from hq)
  cases (show some ((2095, 132, 2) : Nat × Nat × Nat) = some w from hw)
  exact ⟨ok_251, by decide +kernel⟩
theorem g_one_252 : g_one 252 := fun q w hq hw => by
  cases (show some ((yX12_crew, cX12_crew, 2, (some .int), RX12, []) : AM) = some q from hq)
  cases (show some ((2091, 132, 1) : Nat × Nat × Nat) = some w from hw)
  exact ⟨ok_252, by decide +kernel⟩
theorem g_one_253 : g_one 253 := fun q w hq hw => by
  cases (show some ((yX12_crewOf, cX12_crewOf, 3, (some .int), RX12, []) : AM) = some q from hq)
  cases (show some ((2103, 132, 2) : Nat × Nat × Nat) = some w from hw)
  exact ⟨ok_253, by decide +kernel⟩
theorem g_one_254 : g_one 254 := fun q w hq hw => by
  cases (show some ((yX12_behind, cX12_behind, 2, (some .int), RX12, []) : AM) = some q from hq)
  cases (show some ((2107, 132, 1) : Nat × Nat × Nat) = some w from hw)
  exact ⟨ok_254, by decide +kernel⟩
theorem g_one_255 : g_one 255 := fun q w hq hw => by
  cases (show some ((yX12_overtakes, cX12_overtakes, 6, (some .int), RX12, []) : AM) = some q from hq)
  cases (show some ((2111, 132, 3) : Nat × Nat × Nat) = some w from hw)
  exact ⟨ok_255, by decide +kernel⟩
theorem g_one_256 : g_one 256 := fun q w hq hw => by
  cases (show some ((yX12_isWell, cX12_isWell, 3, (some .boolean), RX12, []) : AM) = some q from hq)
  cases (show some ((2123, 132, 1) : Nat × Nat × Nat) = some w from hw)
  exact ⟨ok_256, by decide +kernel⟩
theorem g_one_257 : g_one 257 := fun q w hq hw => by
  cases (show some ((yX12_wayOf, cX12_wayOf, 8, (some .int), RX12, []) : AM) = some q from hq)
  cases (show some ((2119, 132, 2) : Nat × Nat × Nat) = some w from hw)
  exact ⟨ok_257, by decide +kernel⟩
theorem g_one_258 : g_one 258 := fun q w hq hw => by
  cases (show some ((yX12_way, cX12_way, 3, (some .int), RX12, []) : AM) = some q from hq)
  cases (show some ((2115, 132, 2) : Nat × Nat × Nat) = some w from hw)
  exact ⟨ok_258, by decide +kernel⟩
theorem g_one_259 : g_one 259 := fun q w hq hw => by
  cases (show some ((yX12_water, cX12_water, 3, (some .int), RX12, []) : AM) = some q from hq)
  cases (show some ((2127, 132, 1) : Nat × Nat × Nat) = some w from hw)
  exact ⟨ok_259, by decide +kernel⟩
theorem g_one_260 : g_one 260 := fun q w hq hw => by
  cases (show some ((yX12_likes, cX12_likes, 5, (some .boolean), RX12, []) : AM) = some q from hq)
  cases (show some ((2142, 132, 3) : Nat × Nat × Nat) = some w from hw)
  exact ⟨ok_260, by decide +kernel⟩
theorem g_one_261 : g_one 261 := fun q w hq hw => by
  cases (show some ((yX12_liking, cX12_liking, 5, (some .int), RX12, []) : AM) = some q from hq)
  cases (show some ((2138, 132, 2) : Nat × Nat × Nat) = some w from hw)
  exact ⟨ok_261, by decide +kernel⟩
theorem g_one_262 : g_one 262 := fun q w hq hw => by
  cases (show some ((yX12_voted, cX12_voted, 3, (some .int), RX12, []) : AM) = some q from hq)
  cases (show some ((2154, 132, 2) : Nat × Nat × Nat) = some w from hw)
  exact ⟨ok_262, by decide +kernel⟩
theorem g_one_263 : g_one 263 := fun q w hq hw => by
  cases (show some ((yX12_winsBy, cX12_winsBy, 7, (some .int), RX12, []) : AM) = some q from hq)
  cases (show some ((2150, 132, 3) : Nat × Nat × Nat) = some w from hw)
  exact ⟨ok_263, by decide +kernel⟩
theorem g_one_264 : g_one 264 := fun q w hq hw => by
  cases (show some ((yX12_isPlan, cX12_isPlan, 1, (some .boolean), RX12, []) : AM) = some q from hq)
  cases (show some ((2134, 132, 1) : Nat × Nat × Nat) = some w from hw)
  exact ⟨ok_264, by decide +kernel⟩
theorem g_one_265 : g_one 265 := fun q w hq hw => by
  cases (show some ((yX12_prefer, cX12_prefer, 3, (some .int), RX12, []) : AM) = some q from hq)
  cases (show some ((2131, 132, 2) : Nat × Nat × Nat) = some w from hw)
  exact ⟨ok_265, by decide +kernel⟩
theorem g_one_266 : g_one 266 := fun q w hq hw => by
  cases (show some ((yX12_wins, cX12_wins, 4, (some .int), RX12, []) : AM) = some q from hq)
  cases (show some ((2146, 132, 3) : Nat × Nat × Nat) = some w from hw)
  exact ⟨ok_266, by decide +kernel⟩
theorem g_one_267 : g_one 267 := fun q w hq hw => by
  cases (show some ((yX12_agendas, cX12_agendas, 5, (some .int), RX12, []) : AM) = some q from hq)
  cases (show some ((2158, 132, 2) : Nat × Nat × Nat) = some w from hw)
  exact ⟨ok_267, by decide +kernel⟩
theorem g_one_268 : g_one 268 := fun q w hq hw => by
  cases (show some ((yX12_beats, cX12_beats, 4, (some .int), RX12, []) : AM) = some q from hq)
  cases (show some ((2162, 132, 0) : Nat × Nat × Nat) = some w from hw)
  exact ⟨ok_268, by decide +kernel⟩
theorem g_one_269 : g_one 269 := fun q w hq hw => by
  cases (show some ((yX12_notedIn, cX12_notedIn, 3, (some .int), RX12, []) : AM) = some q from hq)
  cases (show some ((2174, 132, 2) : Nat × Nat × Nat) = some w from hw)
  exact ⟨ok_269, by decide +kernel⟩
theorem g_one_270 : g_one 270 := fun q w hq hw => by
  cases (show some ((yX12_fitsNow, cX12_fitsNow, 5, (some .int), RX12, []) : AM) = some q from hq)
  cases (show some ((2170, 132, 0) : Nat × Nat × Nat) = some w from hw)
  exact ⟨ok_270, by decide +kernel⟩
theorem g_one_271 : g_one 271 := fun q w hq hw => by
  cases (show some ((yX12_fits, cX12_fits, 1, (some .int), RX12, []) : AM) = some q from hq)
  cases (show some ((2166, 132, 0) : Nat × Nat × Nat) = some w from hw)
  exact ⟨ok_271, by decide +kernel⟩
theorem g_one_272 : g_one 272 := fun q w hq hw => by
  cases (show some ((yX12_worstAt, cX12_worstAt, 6, (some .int), RX12, []) : AM) = some q from hq)
  cases (show some ((2182, 132, 2) : Nat × Nat × Nat) = some w from hw)
  exact ⟨ok_272, by decide +kernel⟩
theorem g_one_273 : g_one 273 := fun q w hq hw => by
  cases (show some ((yX12_look, cX12_look, 7, (some .int), RX12, []) : AM) = some q from hq)
  cases (show some ((2178, 132, 1) : Nat × Nat × Nat) = some w from hw)
  exact ⟨ok_273, by decide +kernel⟩
theorem g_one_274 : g_one 274 := fun q w hq hw => by
  cases (show some ((yX12_stood, cX12_stood, 3, (some .int), RX12, []) : AM) = some q from hq)
  cases (show some ((2186, 132, 2) : Nat × Nat × Nat) = some w from hw)
  exact ⟨ok_274, by decide +kernel⟩
theorem g_one_275 : g_one 275 := fun q w hq hw => by
  cases (show some ((yX12_least, cX12_least, 11, (some .long), RX12, []) : AM) = some q from hq)
  cases (show some ((2197, 132, 3) : Nat × Nat × Nat) = some w from hw)
  exact ⟨ok_275, by decide +kernel⟩
theorem g_one_276 : g_one 276 := fun q w hq hw => by
  cases (show some ((yX12_power, cX12_power, 6, (some .long), RX12, []) : AM) = some q from hq)
  cases (show some ((2193, 132, 2) : Nat × Nat × Nat) = some w from hw)
  exact ⟨ok_276, by decide +kernel⟩
theorem g_one_277 : g_one 277 := fun q w hq hw => by
  cases (show some ((yX12_mild, cX12_mild, 3, (some .long), RX12, []) : AM) = some q from hq)
  cases (show some ((2190, 132, 2) : Nat × Nat × Nat) = some w from hw)
  exact ⟨ok_277, by decide +kernel⟩
theorem g_one_278 : g_one 278 := fun q w hq hw => by
  cases (show some ((yX12_ahead, cX12_ahead, 6, (some .long), RX12, []) : AM) = some q from hq)
  cases (show some ((2201, 132, 2) : Nat × Nat × Nat) = some w from hw)
  exact ⟨ok_278, by decide +kernel⟩
theorem g_one_279 : g_one 279 := fun q w hq hw => by
  cases (show some ((yX12_draws, cX12_draws, 1, (some .int), RX12, []) : AM) = some q from hq)
  cases (show some ((2213, 132, 0) : Nat × Nat × Nat) = some w from hw)
  exact ⟨ok_279, by decide +kernel⟩
theorem g_one_280 : g_one 280 := fun q w hq hw => by
  cases (show some ((yX12_goesOn, cX12_goesOn, 7, none, RX12, []) : AM) = some q from hq)
  cases (show some ((2209, 132, 2) : Nat × Nat × Nat) = some w from hw)
  exact ⟨ok_280, by decide +kernel⟩
theorem g_one_281 : g_one 281 := fun q w hq hw => by
  cases (show some ((yX12_season, cX12_season, 4, (some .int), RX12, []) : AM) = some q from hq)
  cases (show some ((2205, 132, 3) : Nat × Nat × Nat) = some w from hw)
  exact ⟨ok_281, by decide +kernel⟩
theorem g_one_282 : g_one 282 := fun q w hq hw => by
  cases (show some ((yX12_span, cX12_span, 11, (some .int), RX12, []) : AM) = some q from hq)
  cases (show some ((2218, 132, 5) : Nat × Nat × Nat) = some w from hw)
  exact ⟨ok_282, by decide +kernel⟩
theorem g_one_283 : g_one 283 := fun q w hq hw => by
  cases (show some ((yX12_keepsRow, cX12_keepsRow, 6, (some .int), RX12, []) : AM) = some q from hq)
  cases (show some ((2230, 132, 4) : Nat × Nat × Nat) = some w from hw)
  exact ⟨ok_283, by decide +kernel⟩
theorem g_one_284 : g_one 284 := fun q w hq hw => by
  cases (show some ((yX12_keepsAll, cX12_keepsAll, 4, none, RX12, []) : AM) = some q from hq)
  cases (show some ((2226, 132, 2) : Nat × Nat × Nat) = some w from hw)
  exact ⟨ok_284, by decide +kernel⟩
theorem g_one_285 : g_one 285 := fun q w hq hw => by
  cases (show some ((yX12_image, cX12_image, 1, (some .int), RX12, []) : AM) = some q from hq)
  cases (show some ((2222, 132, 0) : Nat × Nat × Nat) = some w from hw)
  exact ⟨ok_285, by decide +kernel⟩
theorem g_one_286 : g_one 286 := fun q w hq hw => by
  cases (show some ((yX12_restore, cX12_restore, 1, (some .int), RX12, []) : AM) = some q from hq)
  cases (show some ((2234, 132, 0) : Nat × Nat × Nat) = some w from hw)
  exact ⟨ok_286, by decide +kernel⟩
theorem g_one_287 : g_one 287 := fun q w hq hw => by
  cases (show some ((yX12_status, cX12_status, 2, (some .int), RX12, []) : AM) = some q from hq)
  cases (show some ((2238, 132, 1) : Nat × Nat × Nat) = some w from hw)
  exact ⟨ok_287, by decide +kernel⟩
theorem g_one_288 : g_one 288 := fun q w hq hw => by
  cases (show some ((yX12_count, cX12_count, 2, (some .int), RX12, []) : AM) = some q from hq)
  cases (show some ((2242, 132, 1) : Nat × Nat × Nat) = some w from hw)
  exact ⟨ok_288, by decide +kernel⟩
theorem g_one_289 : g_one 289 := fun q w hq hw => by
  cases (show some ((yJ6_bitCount_0f7a4, cJ6_bitCount_0f7a4, 1, (some .int), RJ6, []) : AM) = some q from hq)
  cases (show some ((636, 142, 1) : Nat × Nat × Nat) = some w from hw)
  exact ⟨ok_289, by decide +kernel⟩
theorem g_one_290 : g_one 290 := fun q w hq hw => by
  cases (show some ((yJ7_fill_d0a16, cJ7_fill_d0a16, 5, none, RJ7, []) : AM) = some q from hq)
  cases (show some ((1277, 123, 2) : Nat × Nat × Nat) = some w from hw)
  exact ⟨ok_290, by decide +kernel⟩
theorem g_one_291 : g_one 291 := fun q w hq hw => by
  cases (show some ((yJ7_fill_53178, cJ7_fill_53178, 4, none, RJ7, []) : AM) = some q from hq)
  cases (show some ((252, 123, 2) : Nat × Nat × Nat) = some w from hw)
  exact ⟨ok_291, by decide +kernel⟩
theorem g_one_292 : g_one 292 := fun q w hq hw => by
  cases (show some ((yL_train, cL_train, 4, (some .int), RL, [(0, 9, 12, 13)]) : AM) = some q from hq)
  cases (show some ((703, 117, 3) : Nat × Nat × Nat) = some w from hw)
  exact ⟨ok_292, by decide +kernel⟩
theorem g_one_293 : g_one 293 := fun q w hq hw => by
  cases (show some ((yL_law, cL_law, 4, (some .int), RL, [(0, 9, 12, 13)]) : AM) = some q from hq)
  cases (show some ((963, 117, 3) : Nat × Nat × Nat) = some w from hw)
  exact ⟨ok_293, by decide +kernel⟩
theorem g_one_294 : g_one 294 := fun q w hq hw => by
  cases (show some ((yL_work, cL_work, 4, (some .int), RL, [(0, 9, 12, 13)]) : AM) = some q from hq)
  cases (show some ((995, 117, 3) : Nat × Nat × Nat) = some w from hw)
  exact ⟨ok_294, by decide +kernel⟩
theorem g_one_295 : g_one 295 := fun q w hq hw => by
  cases (show some ((yL_book, cL_book, 4, (some .int), RL, [(0, 9, 12, 13)]) : AM) = some q from hq)
  cases (show some ((1127, 117, 3) : Nat × Nat × Nat) = some w from hw)
  exact ⟨ok_295, by decide +kernel⟩
theorem g_one_296 : g_one 296 := fun q w hq hw => by
  cases (show some ((yL_told, cL_told, 4, (some .int), RL, [(0, 9, 12, 13)]) : AM) = some q from hq)
  cases (show some ((1147, 117, 3) : Nat × Nat × Nat) = some w from hw)
  exact ⟨ok_296, by decide +kernel⟩
theorem g_one_297 : g_one 297 := fun q w hq hw => by
  cases (show some ((yL_wagon, cL_wagon, 5, (some .int), RL, [(0, 10, 13, 31), (0, 10, 17, 13)]) : AM) = some q from hq)
  cases (show some ((1163, 117, 4) : Nat × Nat × Nat) = some w from hw)
  exact ⟨ok_297, by decide +kernel⟩
theorem g_one_298 : g_one 298 := fun q w hq hw => by
  cases (show some ((yL_stands, cL_stands, 4, (some .int), RL, [(0, 9, 12, 13)]) : AM) = some q from hq)
  cases (show some ((1192, 117, 3) : Nat × Nat × Nat) = some w from hw)
  exact ⟨ok_298, by decide +kernel⟩
theorem g_one_299 : g_one 299 := fun q w hq hw => by
  cases (show some ((yL_ground, cL_ground, 4, (some .int), RL, [(0, 9, 12, 13)]) : AM) = some q from hq)
  cases (show some ((1203, 117, 3) : Nat × Nat × Nat) = some w from hw)
  exact ⟨ok_299, by decide +kernel⟩
theorem g_one_300 : g_one 300 := fun q w hq hw => by
  cases (show some ((yL_tie, cL_tie, 5, (some .int), RL, [(0, 10, 13, 31)]) : AM) = some q from hq)
  cases (show some ((1210, 117, 4) : Nat × Nat × Nat) = some w from hw)
  exact ⟨ok_300, by decide +kernel⟩
theorem g_one_301 : g_one 301 := fun q w hq hw => by
  cases (show some ((yL_lasts, cL_lasts, 5, (some .int), RL, [(0, 10, 13, 31), (0, 10, 17, 13)]) : AM) = some q from hq)
  cases (show some ((1218, 117, 4) : Nat × Nat × Nat) = some w from hw)
  exact ⟨ok_301, by decide +kernel⟩
theorem g_one_302 : g_one 302 := fun q w hq hw => by
  cases (show some ((yL_would, cL_would, 9, (some .int), RL, [(0, 18, 21, 13)]) : AM) = some q from hq)
  cases (show some ((1226, 117, 8) : Nat × Nat × Nat) = some w from hw)
  exact ⟨ok_302, by decide +kernel⟩
theorem g_one_303 : g_one 303 := fun q w hq hw => by
  cases (show some ((yL_can, cL_can, 5, (some .int), RL, [(0, 17, 20, 31), (0, 17, 24, 13)]) : AM) = some q from hq)
  cases (show some ((1236, 117, 4) : Nat × Nat × Nat) = some w from hw)
  exact ⟨ok_303, by decide +kernel⟩
theorem g_one_304 : g_one 304 := fun q w hq hw => by
  cases (show some ((yL_ties, cL_ties, 4, (some .int), RL, [(0, 9, 12, 31)]) : AM) = some q from hq)
  cases (show some ((1244, 117, 3) : Nat × Nat × Nat) = some w from hw)
  exact ⟨ok_304, by decide +kernel⟩
theorem g_one_305 : g_one 305 := fun q w hq hw => by
  cases (show some ((yL_best, cL_best, 4, (some .int), RL, [(0, 9, 12, 13)]) : AM) = some q from hq)
  cases (show some ((1251, 117, 3) : Nat × Nat × Nat) = some w from hw)
  exact ⟨ok_305, by decide +kernel⟩
theorem g_one_306 : g_one 306 := fun q w hq hw => by
  cases (show some ((yL_bestAt, cL_bestAt, 5, (some .int), RL, [(0, 10, 13, 31), (0, 10, 17, 13)]) : AM) = some q from hq)
  cases (show some ((1296, 117, 4) : Nat × Nat × Nat) = some w from hw)
  exact ⟨ok_306, by decide +kernel⟩
theorem g_one_307 : g_one 307 := fun q w hq hw => by
  cases (show some ((yL_rather, cL_rather, 4, (some .int), RL, [(0, 9, 12, 31)]) : AM) = some q from hq)
  cases (show some ((1308, 117, 3) : Nat × Nat × Nat) = some w from hw)
  exact ⟨ok_307, by decide +kernel⟩
theorem g_one_308 : g_one 308 := fun q w hq hw => by
  cases (show some ((yL_loaded, cL_loaded, 4, (some .int), RL, [(0, 9, 12, 13)]) : AM) = some q from hq)
  cases (show some ((1315, 117, 3) : Nat × Nat × Nat) = some w from hw)
  exact ⟨ok_308, by decide +kernel⟩
theorem g_one_309 : g_one 309 := fun q w hq hw => by
  cases (show some ((yL_crew, cL_crew, 4, (some .int), RL, [(0, 9, 12, 13)]) : AM) = some q from hq)
  cases (show some ((1322, 117, 3) : Nat × Nat × Nat) = some w from hw)
  exact ⟨ok_309, by decide +kernel⟩
theorem g_one_310 : g_one 310 := fun q w hq hw => by
  cases (show some ((yL_crewOf, cL_crewOf, 5, (some .int), RL, [(0, 10, 13, 31), (0, 10, 17, 13)]) : AM) = some q from hq)
  cases (show some ((1345, 117, 4) : Nat × Nat × Nat) = some w from hw)
  exact ⟨ok_310, by decide +kernel⟩
theorem g_one_311 : g_one 311 := fun q w hq hw => by
  cases (show some ((yL_behind, cL_behind, 4, (some .int), RL, [(0, 9, 12, 31)]) : AM) = some q from hq)
  cases (show some ((1352, 117, 3) : Nat × Nat × Nat) = some w from hw)
  exact ⟨ok_311, by decide +kernel⟩
theorem g_one_312 : g_one 312 := fun q w hq hw => by
  cases (show some ((yL_overtakes, cL_overtakes, 6, (some .int), RL, [(0, 12, 15, 13)]) : AM) = some q from hq)
  cases (show some ((1360, 117, 5) : Nat × Nat × Nat) = some w from hw)
  exact ⟨ok_312, by decide +kernel⟩
theorem g_one_313 : g_one 313 := fun q w hq hw => by
  cases (show some ((yL_way, cL_way, 5, (some .int), RL, [(0, 10, 13, 13)]) : AM) = some q from hq)
  cases (show some ((1370, 117, 4) : Nat × Nat × Nat) = some w from hw)
  exact ⟨ok_313, by decide +kernel⟩
theorem g_one_314 : g_one 314 := fun q w hq hw => by
  cases (show some ((yL_water, cL_water, 4, (some .int), RL, [(0, 9, 12, 13)]) : AM) = some q from hq)
  cases (show some ((1389, 117, 3) : Nat × Nat × Nat) = some w from hw)
  exact ⟨ok_314, by decide +kernel⟩
theorem g_one_315 : g_one 315 := fun q w hq hw => by
  cases (show some ((yL_prefer, cL_prefer, 5, (some .int), RL, [(0, 10, 13, 13)]) : AM) = some q from hq)
  cases (show some ((1396, 117, 4) : Nat × Nat × Nat) = some w from hw)
  exact ⟨ok_315, by decide +kernel⟩
theorem g_one_316 : g_one 316 := fun q w hq hw => by
  cases (show some ((yL_wins, cL_wins, 6, (some .int), RL, [(0, 12, 15, 13)]) : AM) = some q from hq)
  cases (show some ((1408, 117, 5) : Nat × Nat × Nat) = some w from hw)
  exact ⟨ok_316, by decide +kernel⟩
theorem g_one_317 : g_one 317 := fun q w hq hw => by
  cases (show some ((yL_agendas, cL_agendas, 5, (some .int), RL, [(0, 10, 13, 13)]) : AM) = some q from hq)
  cases (show some ((1424, 117, 4) : Nat × Nat × Nat) = some w from hw)
  exact ⟨ok_317, by decide +kernel⟩
theorem g_one_318 : g_one 318 := fun q w hq hw => by
  cases (show some ((yL_look, cL_look, 4, (some .int), RL, [(0, 9, 12, 13)]) : AM) = some q from hq)
  cases (show some ((1431, 117, 3) : Nat × Nat × Nat) = some w from hw)
  exact ⟨ok_318, by decide +kernel⟩
theorem g_one_319 : g_one 319 := fun q w hq hw => by
  cases (show some ((yL_stood, cL_stood, 5, (some .int), RL, [(0, 10, 13, 13)]) : AM) = some q from hq)
  cases (show some ((1443, 117, 4) : Nat × Nat × Nat) = some w from hw)
  exact ⟨ok_319, by decide +kernel⟩
theorem g_one_320 : g_one 320 := fun q w hq hw => by
  cases (show some ((yL_mild, cL_mild, 5, (some .int), RL, [(0, 9, 12, 13)]) : AM) = some q from hq)
  cases (show some ((1451, 117, 4) : Nat × Nat × Nat) = some w from hw)
  exact ⟨ok_320, by decide +kernel⟩
theorem g_one_321 : g_one 321 := fun q w hq hw => by
  cases (show some ((yL_ahead, cL_ahead, 5, (some .int), RL, [(0, 9, 12, 13)]) : AM) = some q from hq)
  cases (show some ((1462, 117, 4) : Nat × Nat × Nat) = some w from hw)
  exact ⟨ok_321, by decide +kernel⟩
theorem g_one_322 : g_one 322 := fun q w hq hw => by
  cases (show some ((yL_season, cL_season, 6, (some .int), RL, [(0, 12, 15, 13)]) : AM) = some q from hq)
  cases (show some ((1469, 117, 5) : Nat × Nat × Nat) = some w from hw)
  exact ⟨ok_322, by decide +kernel⟩
theorem g_one_323 : g_one 323 := fun q w hq hw => by
  cases (show some ((yL_span, cL_span, 8, (some .int), RL, [(0, 16, 19, 13)]) : AM) = some q from hq)
  cases (show some ((1491, 117, 7) : Nat × Nat × Nat) = some w from hw)
  exact ⟨ok_323, by decide +kernel⟩
theorem g_ch_0 : ∀ mi, 0 ≤ mi → mi < 18 → g_one mi := fun mi h1 h2 => by
  have h : mi = 0 ∨ mi = 1 ∨ mi = 2 ∨ mi = 3 ∨ mi = 4 ∨ mi = 5 ∨ mi = 6 ∨ mi = 7 ∨ mi = 8 ∨ mi = 9 ∨ mi = 10 ∨ mi = 11 ∨ mi = 12 ∨ mi = 13 ∨ mi = 14 ∨ mi = 15 ∨ mi = 16 ∨ mi = 17 := by omega
  rcases h with rfl | rfl | rfl | rfl | rfl | rfl | rfl | rfl | rfl | rfl | rfl | rfl | rfl | rfl | rfl | rfl | rfl | rfl
  · exact g_one_0
  · exact g_one_1
  · exact g_one_2
  · exact g_one_3
  · exact g_one_4
  · exact g_one_5
  · exact g_one_6
  · exact g_one_7
  · exact g_one_8
  · exact g_one_9
  · exact g_one_10
  · exact g_one_11
  · exact g_one_12
  · exact g_one_13
  · exact g_one_14
  · exact g_one_15
  · exact g_one_16
  · exact g_one_17
theorem g_ch_18 : ∀ mi, 18 ≤ mi → mi < 36 → g_one mi := fun mi h1 h2 => by
  have h : mi = 18 ∨ mi = 19 ∨ mi = 20 ∨ mi = 21 ∨ mi = 22 ∨ mi = 23 ∨ mi = 24 ∨ mi = 25 ∨ mi = 26 ∨ mi = 27 ∨ mi = 28 ∨ mi = 29 ∨ mi = 30 ∨ mi = 31 ∨ mi = 32 ∨ mi = 33 ∨ mi = 34 ∨ mi = 35 := by omega
  rcases h with rfl | rfl | rfl | rfl | rfl | rfl | rfl | rfl | rfl | rfl | rfl | rfl | rfl | rfl | rfl | rfl | rfl | rfl
  · exact g_one_18
  · exact g_one_19
  · exact g_one_20
  · exact g_one_21
  · exact g_one_22
  · exact g_one_23
  · exact g_one_24
  · exact g_one_25
  · exact g_one_26
  · exact g_one_27
  · exact g_one_28
  · exact g_one_29
  · exact g_one_30
  · exact g_one_31
  · exact g_one_32
  · exact g_one_33
  · exact g_one_34
  · exact g_one_35
theorem g_ch_36 : ∀ mi, 36 ≤ mi → mi < 54 → g_one mi := fun mi h1 h2 => by
  have h : mi = 36 ∨ mi = 37 ∨ mi = 38 ∨ mi = 39 ∨ mi = 40 ∨ mi = 41 ∨ mi = 42 ∨ mi = 43 ∨ mi = 44 ∨ mi = 45 ∨ mi = 46 ∨ mi = 47 ∨ mi = 48 ∨ mi = 49 ∨ mi = 50 ∨ mi = 51 ∨ mi = 52 ∨ mi = 53 := by omega
  rcases h with rfl | rfl | rfl | rfl | rfl | rfl | rfl | rfl | rfl | rfl | rfl | rfl | rfl | rfl | rfl | rfl | rfl | rfl
  · exact g_one_36
  · exact g_one_37
  · exact g_one_38
  · exact g_one_39
  · exact g_one_40
  · exact g_one_41
  · exact g_one_42
  · exact g_one_43
  · exact g_one_44
  · exact g_one_45
  · exact g_one_46
  · exact g_one_47
  · exact g_one_48
  · exact g_one_49
  · exact g_one_50
  · exact g_one_51
  · exact g_one_52
  · exact g_one_53
theorem g_ch_54 : ∀ mi, 54 ≤ mi → mi < 72 → g_one mi := fun mi h1 h2 => by
  have h : mi = 54 ∨ mi = 55 ∨ mi = 56 ∨ mi = 57 ∨ mi = 58 ∨ mi = 59 ∨ mi = 60 ∨ mi = 61 ∨ mi = 62 ∨ mi = 63 ∨ mi = 64 ∨ mi = 65 ∨ mi = 66 ∨ mi = 67 ∨ mi = 68 ∨ mi = 69 ∨ mi = 70 ∨ mi = 71 := by omega
  rcases h with rfl | rfl | rfl | rfl | rfl | rfl | rfl | rfl | rfl | rfl | rfl | rfl | rfl | rfl | rfl | rfl | rfl | rfl
  · exact g_one_54
  · exact g_one_55
  · exact g_one_56
  · exact g_one_57
  · exact g_one_58
  · exact g_one_59
  · exact g_one_60
  · exact g_one_61
  · exact g_one_62
  · exact g_one_63
  · exact g_one_64
  · exact g_one_65
  · exact g_one_66
  · exact g_one_67
  · exact g_one_68
  · exact g_one_69
  · exact g_one_70
  · exact g_one_71
theorem g_ch_72 : ∀ mi, 72 ≤ mi → mi < 90 → g_one mi := fun mi h1 h2 => by
  have h : mi = 72 ∨ mi = 73 ∨ mi = 74 ∨ mi = 75 ∨ mi = 76 ∨ mi = 77 ∨ mi = 78 ∨ mi = 79 ∨ mi = 80 ∨ mi = 81 ∨ mi = 82 ∨ mi = 83 ∨ mi = 84 ∨ mi = 85 ∨ mi = 86 ∨ mi = 87 ∨ mi = 88 ∨ mi = 89 := by omega
  rcases h with rfl | rfl | rfl | rfl | rfl | rfl | rfl | rfl | rfl | rfl | rfl | rfl | rfl | rfl | rfl | rfl | rfl | rfl
  · exact g_one_72
  · exact g_one_73
  · exact g_one_74
  · exact g_one_75
  · exact g_one_76
  · exact g_one_77
  · exact g_one_78
  · exact g_one_79
  · exact g_one_80
  · exact g_one_81
  · exact g_one_82
  · exact g_one_83
  · exact g_one_84
  · exact g_one_85
  · exact g_one_86
  · exact g_one_87
  · exact g_one_88
  · exact g_one_89
theorem g_ch_90 : ∀ mi, 90 ≤ mi → mi < 108 → g_one mi := fun mi h1 h2 => by
  have h : mi = 90 ∨ mi = 91 ∨ mi = 92 ∨ mi = 93 ∨ mi = 94 ∨ mi = 95 ∨ mi = 96 ∨ mi = 97 ∨ mi = 98 ∨ mi = 99 ∨ mi = 100 ∨ mi = 101 ∨ mi = 102 ∨ mi = 103 ∨ mi = 104 ∨ mi = 105 ∨ mi = 106 ∨ mi = 107 := by omega
  rcases h with rfl | rfl | rfl | rfl | rfl | rfl | rfl | rfl | rfl | rfl | rfl | rfl | rfl | rfl | rfl | rfl | rfl | rfl
  · exact g_one_90
  · exact g_one_91
  · exact g_one_92
  · exact g_one_93
  · exact g_one_94
  · exact g_one_95
  · exact g_one_96
  · exact g_one_97
  · exact g_one_98
  · exact g_one_99
  · exact g_one_100
  · exact g_one_101
  · exact g_one_102
  · exact g_one_103
  · exact g_one_104
  · exact g_one_105
  · exact g_one_106
  · exact g_one_107
theorem g_ch_108 : ∀ mi, 108 ≤ mi → mi < 126 → g_one mi := fun mi h1 h2 => by
  have h : mi = 108 ∨ mi = 109 ∨ mi = 110 ∨ mi = 111 ∨ mi = 112 ∨ mi = 113 ∨ mi = 114 ∨ mi = 115 ∨ mi = 116 ∨ mi = 117 ∨ mi = 118 ∨ mi = 119 ∨ mi = 120 ∨ mi = 121 ∨ mi = 122 ∨ mi = 123 ∨ mi = 124 ∨ mi = 125 := by omega
  rcases h with rfl | rfl | rfl | rfl | rfl | rfl | rfl | rfl | rfl | rfl | rfl | rfl | rfl | rfl | rfl | rfl | rfl | rfl
  · exact g_one_108
  · exact g_one_109
  · exact g_one_110
  · exact g_one_111
  · exact g_one_112
  · exact g_one_113
  · exact g_one_114
  · exact g_one_115
  · exact g_one_116
  · exact g_one_117
  · exact g_one_118
  · exact g_one_119
  · exact g_one_120
  · exact g_one_121
  · exact g_one_122
  · exact g_one_123
  · exact g_one_124
  · exact g_one_125
theorem g_ch_126 : ∀ mi, 126 ≤ mi → mi < 144 → g_one mi := fun mi h1 h2 => by
  have h : mi = 126 ∨ mi = 127 ∨ mi = 128 ∨ mi = 129 ∨ mi = 130 ∨ mi = 131 ∨ mi = 132 ∨ mi = 133 ∨ mi = 134 ∨ mi = 135 ∨ mi = 136 ∨ mi = 137 ∨ mi = 138 ∨ mi = 139 ∨ mi = 140 ∨ mi = 141 ∨ mi = 142 ∨ mi = 143 := by omega
  rcases h with rfl | rfl | rfl | rfl | rfl | rfl | rfl | rfl | rfl | rfl | rfl | rfl | rfl | rfl | rfl | rfl | rfl | rfl
  · exact g_one_126
  · exact g_one_127
  · exact g_one_128
  · exact g_one_129
  · exact g_one_130
  · exact g_one_131
  · exact g_one_132
  · exact g_one_133
  · exact g_one_134
  · exact g_one_135
  · exact g_one_136
  · exact g_one_137
  · exact g_one_138
  · exact g_one_139
  · exact g_one_140
  · exact g_one_141
  · exact g_one_142
  · exact g_one_143
theorem g_ch_144 : ∀ mi, 144 ≤ mi → mi < 162 → g_one mi := fun mi h1 h2 => by
  have h : mi = 144 ∨ mi = 145 ∨ mi = 146 ∨ mi = 147 ∨ mi = 148 ∨ mi = 149 ∨ mi = 150 ∨ mi = 151 ∨ mi = 152 ∨ mi = 153 ∨ mi = 154 ∨ mi = 155 ∨ mi = 156 ∨ mi = 157 ∨ mi = 158 ∨ mi = 159 ∨ mi = 160 ∨ mi = 161 := by omega
  rcases h with rfl | rfl | rfl | rfl | rfl | rfl | rfl | rfl | rfl | rfl | rfl | rfl | rfl | rfl | rfl | rfl | rfl | rfl
  · exact g_one_144
  · exact g_one_145
  · exact g_one_146
  · exact g_one_147
  · exact g_one_148
  · exact g_one_149
  · exact g_one_150
  · exact g_one_151
  · exact g_one_152
  · exact g_one_153
  · exact g_one_154
  · exact g_one_155
  · exact g_one_156
  · exact g_one_157
  · exact g_one_158
  · exact g_one_159
  · exact g_one_160
  · exact g_one_161
theorem g_ch_162 : ∀ mi, 162 ≤ mi → mi < 180 → g_one mi := fun mi h1 h2 => by
  have h : mi = 162 ∨ mi = 163 ∨ mi = 164 ∨ mi = 165 ∨ mi = 166 ∨ mi = 167 ∨ mi = 168 ∨ mi = 169 ∨ mi = 170 ∨ mi = 171 ∨ mi = 172 ∨ mi = 173 ∨ mi = 174 ∨ mi = 175 ∨ mi = 176 ∨ mi = 177 ∨ mi = 178 ∨ mi = 179 := by omega
  rcases h with rfl | rfl | rfl | rfl | rfl | rfl | rfl | rfl | rfl | rfl | rfl | rfl | rfl | rfl | rfl | rfl | rfl | rfl
  · exact g_one_162
  · exact g_one_163
  · exact g_one_164
  · exact g_one_165
  · exact g_one_166
  · exact g_one_167
  · exact g_one_168
  · exact g_one_169
  · exact g_one_170
  · exact g_one_171
  · exact g_one_172
  · exact g_one_173
  · exact g_one_174
  · exact g_one_175
  · exact g_one_176
  · exact g_one_177
  · exact g_one_178
  · exact g_one_179
theorem g_ch_180 : ∀ mi, 180 ≤ mi → mi < 198 → g_one mi := fun mi h1 h2 => by
  have h : mi = 180 ∨ mi = 181 ∨ mi = 182 ∨ mi = 183 ∨ mi = 184 ∨ mi = 185 ∨ mi = 186 ∨ mi = 187 ∨ mi = 188 ∨ mi = 189 ∨ mi = 190 ∨ mi = 191 ∨ mi = 192 ∨ mi = 193 ∨ mi = 194 ∨ mi = 195 ∨ mi = 196 ∨ mi = 197 := by omega
  rcases h with rfl | rfl | rfl | rfl | rfl | rfl | rfl | rfl | rfl | rfl | rfl | rfl | rfl | rfl | rfl | rfl | rfl | rfl
  · exact g_one_180
  · exact g_one_181
  · exact g_one_182
  · exact g_one_183
  · exact g_one_184
  · exact g_one_185
  · exact g_one_186
  · exact g_one_187
  · exact g_one_188
  · exact g_one_189
  · exact g_one_190
  · exact g_one_191
  · exact g_one_192
  · exact g_one_193
  · exact g_one_194
  · exact g_one_195
  · exact g_one_196
  · exact g_one_197
theorem g_ch_198 : ∀ mi, 198 ≤ mi → mi < 216 → g_one mi := fun mi h1 h2 => by
  have h : mi = 198 ∨ mi = 199 ∨ mi = 200 ∨ mi = 201 ∨ mi = 202 ∨ mi = 203 ∨ mi = 204 ∨ mi = 205 ∨ mi = 206 ∨ mi = 207 ∨ mi = 208 ∨ mi = 209 ∨ mi = 210 ∨ mi = 211 ∨ mi = 212 ∨ mi = 213 ∨ mi = 214 ∨ mi = 215 := by omega
  rcases h with rfl | rfl | rfl | rfl | rfl | rfl | rfl | rfl | rfl | rfl | rfl | rfl | rfl | rfl | rfl | rfl | rfl | rfl
  · exact g_one_198
  · exact g_one_199
  · exact g_one_200
  · exact g_one_201
  · exact g_one_202
  · exact g_one_203
  · exact g_one_204
  · exact g_one_205
  · exact g_one_206
  · exact g_one_207
  · exact g_one_208
  · exact g_one_209
  · exact g_one_210
  · exact g_one_211
  · exact g_one_212
  · exact g_one_213
  · exact g_one_214
  · exact g_one_215
theorem g_ch_216 : ∀ mi, 216 ≤ mi → mi < 234 → g_one mi := fun mi h1 h2 => by
  have h : mi = 216 ∨ mi = 217 ∨ mi = 218 ∨ mi = 219 ∨ mi = 220 ∨ mi = 221 ∨ mi = 222 ∨ mi = 223 ∨ mi = 224 ∨ mi = 225 ∨ mi = 226 ∨ mi = 227 ∨ mi = 228 ∨ mi = 229 ∨ mi = 230 ∨ mi = 231 ∨ mi = 232 ∨ mi = 233 := by omega
  rcases h with rfl | rfl | rfl | rfl | rfl | rfl | rfl | rfl | rfl | rfl | rfl | rfl | rfl | rfl | rfl | rfl | rfl | rfl
  · exact g_one_216
  · exact g_one_217
  · exact g_one_218
  · exact g_one_219
  · exact g_one_220
  · exact g_one_221
  · exact g_one_222
  · exact g_one_223
  · exact g_one_224
  · exact g_one_225
  · exact g_one_226
  · exact g_one_227
  · exact g_one_228
  · exact g_one_229
  · exact g_one_230
  · exact g_one_231
  · exact g_one_232
  · exact g_one_233
theorem g_ch_234 : ∀ mi, 234 ≤ mi → mi < 252 → g_one mi := fun mi h1 h2 => by
  have h : mi = 234 ∨ mi = 235 ∨ mi = 236 ∨ mi = 237 ∨ mi = 238 ∨ mi = 239 ∨ mi = 240 ∨ mi = 241 ∨ mi = 242 ∨ mi = 243 ∨ mi = 244 ∨ mi = 245 ∨ mi = 246 ∨ mi = 247 ∨ mi = 248 ∨ mi = 249 ∨ mi = 250 ∨ mi = 251 := by omega
  rcases h with rfl | rfl | rfl | rfl | rfl | rfl | rfl | rfl | rfl | rfl | rfl | rfl | rfl | rfl | rfl | rfl | rfl | rfl
  · exact g_one_234
  · exact g_one_235
  · exact g_one_236
  · exact g_one_237
  · exact g_one_238
  · exact g_one_239
  · exact g_one_240
  · exact g_one_241
  · exact g_one_242
  · exact g_one_243
  · exact g_one_244
  · exact g_one_245
  · exact g_one_246
  · exact g_one_247
  · exact g_one_248
  · exact g_one_249
  · exact g_one_250
  · exact g_one_251
theorem g_ch_252 : ∀ mi, 252 ≤ mi → mi < 270 → g_one mi := fun mi h1 h2 => by
  have h : mi = 252 ∨ mi = 253 ∨ mi = 254 ∨ mi = 255 ∨ mi = 256 ∨ mi = 257 ∨ mi = 258 ∨ mi = 259 ∨ mi = 260 ∨ mi = 261 ∨ mi = 262 ∨ mi = 263 ∨ mi = 264 ∨ mi = 265 ∨ mi = 266 ∨ mi = 267 ∨ mi = 268 ∨ mi = 269 := by omega
  rcases h with rfl | rfl | rfl | rfl | rfl | rfl | rfl | rfl | rfl | rfl | rfl | rfl | rfl | rfl | rfl | rfl | rfl | rfl
  · exact g_one_252
  · exact g_one_253
  · exact g_one_254
  · exact g_one_255
  · exact g_one_256
  · exact g_one_257
  · exact g_one_258
  · exact g_one_259
  · exact g_one_260
  · exact g_one_261
  · exact g_one_262
  · exact g_one_263
  · exact g_one_264
  · exact g_one_265
  · exact g_one_266
  · exact g_one_267
  · exact g_one_268
  · exact g_one_269
theorem g_ch_270 : ∀ mi, 270 ≤ mi → mi < 288 → g_one mi := fun mi h1 h2 => by
  have h : mi = 270 ∨ mi = 271 ∨ mi = 272 ∨ mi = 273 ∨ mi = 274 ∨ mi = 275 ∨ mi = 276 ∨ mi = 277 ∨ mi = 278 ∨ mi = 279 ∨ mi = 280 ∨ mi = 281 ∨ mi = 282 ∨ mi = 283 ∨ mi = 284 ∨ mi = 285 ∨ mi = 286 ∨ mi = 287 := by omega
  rcases h with rfl | rfl | rfl | rfl | rfl | rfl | rfl | rfl | rfl | rfl | rfl | rfl | rfl | rfl | rfl | rfl | rfl | rfl
  · exact g_one_270
  · exact g_one_271
  · exact g_one_272
  · exact g_one_273
  · exact g_one_274
  · exact g_one_275
  · exact g_one_276
  · exact g_one_277
  · exact g_one_278
  · exact g_one_279
  · exact g_one_280
  · exact g_one_281
  · exact g_one_282
  · exact g_one_283
  · exact g_one_284
  · exact g_one_285
  · exact g_one_286
  · exact g_one_287
theorem g_ch_288 : ∀ mi, 288 ≤ mi → mi < 306 → g_one mi := fun mi h1 h2 => by
  have h : mi = 288 ∨ mi = 289 ∨ mi = 290 ∨ mi = 291 ∨ mi = 292 ∨ mi = 293 ∨ mi = 294 ∨ mi = 295 ∨ mi = 296 ∨ mi = 297 ∨ mi = 298 ∨ mi = 299 ∨ mi = 300 ∨ mi = 301 ∨ mi = 302 ∨ mi = 303 ∨ mi = 304 ∨ mi = 305 := by omega
  rcases h with rfl | rfl | rfl | rfl | rfl | rfl | rfl | rfl | rfl | rfl | rfl | rfl | rfl | rfl | rfl | rfl | rfl | rfl
  · exact g_one_288
  · exact g_one_289
  · exact g_one_290
  · exact g_one_291
  · exact g_one_292
  · exact g_one_293
  · exact g_one_294
  · exact g_one_295
  · exact g_one_296
  · exact g_one_297
  · exact g_one_298
  · exact g_one_299
  · exact g_one_300
  · exact g_one_301
  · exact g_one_302
  · exact g_one_303
  · exact g_one_304
  · exact g_one_305
theorem g_ch_306 : ∀ mi, 306 ≤ mi → mi < 324 → g_one mi := fun mi h1 h2 => by
  have h : mi = 306 ∨ mi = 307 ∨ mi = 308 ∨ mi = 309 ∨ mi = 310 ∨ mi = 311 ∨ mi = 312 ∨ mi = 313 ∨ mi = 314 ∨ mi = 315 ∨ mi = 316 ∨ mi = 317 ∨ mi = 318 ∨ mi = 319 ∨ mi = 320 ∨ mi = 321 ∨ mi = 322 ∨ mi = 323 := by omega
  rcases h with rfl | rfl | rfl | rfl | rfl | rfl | rfl | rfl | rfl | rfl | rfl | rfl | rfl | rfl | rfl | rfl | rfl | rfl
  · exact g_one_306
  · exact g_one_307
  · exact g_one_308
  · exact g_one_309
  · exact g_one_310
  · exact g_one_311
  · exact g_one_312
  · exact g_one_313
  · exact g_one_314
  · exact g_one_315
  · exact g_one_316
  · exact g_one_317
  · exact g_one_318
  · exact g_one_319
  · exact g_one_320
  · exact g_one_321
  · exact g_one_322
  · exact g_one_323
theorem g_all_ok : g_all := fun mi q w hlt hq hw => by
  by_cases h18 : mi < 18
  · exact g_ch_0 mi (by omega) h18 q w hq hw
  by_cases h36 : mi < 36
  · exact g_ch_18 mi (by omega) h36 q w hq hw
  by_cases h54 : mi < 54
  · exact g_ch_36 mi (by omega) h54 q w hq hw
  by_cases h72 : mi < 72
  · exact g_ch_54 mi (by omega) h72 q w hq hw
  by_cases h90 : mi < 90
  · exact g_ch_72 mi (by omega) h90 q w hq hw
  by_cases h108 : mi < 108
  · exact g_ch_90 mi (by omega) h108 q w hq hw
  by_cases h126 : mi < 126
  · exact g_ch_108 mi (by omega) h126 q w hq hw
  by_cases h144 : mi < 144
  · exact g_ch_126 mi (by omega) h144 q w hq hw
  by_cases h162 : mi < 162
  · exact g_ch_144 mi (by omega) h162 q w hq hw
  by_cases h180 : mi < 180
  · exact g_ch_162 mi (by omega) h180 q w hq hw
  by_cases h198 : mi < 198
  · exact g_ch_180 mi (by omega) h198 q w hq hw
  by_cases h216 : mi < 216
  · exact g_ch_198 mi (by omega) h216 q w hq hw
  by_cases h234 : mi < 234
  · exact g_ch_216 mi (by omega) h234 q w hq hw
  by_cases h252 : mi < 252
  · exact g_ch_234 mi (by omega) h252 q w hq hw
  by_cases h270 : mi < 270
  · exact g_ch_252 mi (by omega) h270 q w hq hw
  by_cases h288 : mi < 288
  · exact g_ch_270 mi (by omega) h288 q w hq hw
  by_cases h306 : mi < 306
  · exact g_ch_288 mi (by omega) h306 q w hq hw
  by_cases h324 : mi < 324
  · exact g_ch_306 mi (by omega) h324 q w hq hw
  omega
