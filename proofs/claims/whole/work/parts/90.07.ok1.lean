set_option maxRecDepth 100000 in
set_option maxHeartbeats 4000000 in
theorem ok_110 : o_meth (yX10_agendaWinner, cX10_agendaWinner, 5, (some .int), RX10, []) (1416, 130, 3) aC_110 5 = true := by decide +kernel
set_option maxRecDepth 100000 in
set_option maxHeartbeats 4000000 in
theorem ok_111 : o_meth (yX11_init, cX11_init, 1, none, RX11, []) (148, 118, 0) aC_111 1 = true := by decide +kernel
set_option maxRecDepth 100000 in
set_option maxHeartbeats 4000000 in
theorem ok_112 : o_meth (yX11_feed, cX11_feed, 6, (some .int), RX11, []) (594, 118, 5) aC_112 6 = true := by decide +kernel
set_option maxRecDepth 100000 in
set_option maxHeartbeats 4000000 in
theorem ok_113 : o_meth (yX11_train, cX11_train, 3, (some .int), RX11, []) (708, 118, 1) aC_113 3 = true := by decide +kernel
set_option maxRecDepth 100000 in
set_option maxHeartbeats 4000000 in
theorem ok_114 : o_meth (yX11_law, cX11_law, 2, (some .int), RX11, []) (967, 118, 1) aC_114 2 = true := by decide +kernel
set_option maxRecDepth 100000 in
set_option maxHeartbeats 4000000 in
theorem ok_115 : o_meth (yX11_work, cX11_work, 3, (some .int), RX11, []) (999, 118, 1) aC_115 3 = true := by decide +kernel
set_option maxRecDepth 100000 in
set_option maxHeartbeats 4000000 in
theorem ok_116 : o_meth (yX11_book, cX11_book, 2, (some .int), RX11, []) (1131, 118, 1) aC_116 2 = true := by decide +kernel
set_option maxRecDepth 100000 in
set_option maxHeartbeats 4000000 in
theorem ok_117 : o_meth (yX11_fault, cX11_fault, 1, (some .int), RX11, []) (602, 118, 0) aC_117 1 = true := by decide +kernel
set_option maxRecDepth 100000 in
set_option maxHeartbeats 4000000 in
theorem ok_118 : o_meth (yX11_undo, cX11_undo, 1, (some .int), RX11, []) (606, 118, 0) aC_118 1 = true := by decide +kernel
set_option maxRecDepth 100000 in
set_option maxHeartbeats 4000000 in
theorem ok_119 : o_meth (yX11_told, cX11_told, 2, (some .int), RX11, []) (1151, 118, 1) aC_119 2 = true := by decide +kernel
set_option maxRecDepth 100000 in
set_option maxHeartbeats 4000000 in
theorem ok_120 : o_meth (yX11_wagon, cX11_wagon, 3, (some .int), RX11, []) (1168, 118, 2) aC_120 3 = true := by decide +kernel
set_option maxRecDepth 100000 in
set_option maxHeartbeats 4000000 in
theorem ok_121 : o_meth (yX11_stands, cX11_stands, 2, (some .int), RX11, []) (1196, 118, 1) aC_121 2 = true := by decide +kernel
set_option maxRecDepth 100000 in
set_option maxHeartbeats 4000000 in
theorem ok_122 : o_meth (yX11_ground, cX11_ground, 2, (some .int), RX11, []) (1207, 118, 1) aC_122 2 = true := by decide +kernel
set_option maxRecDepth 100000 in
set_option maxHeartbeats 4000000 in
theorem ok_123 : o_meth (yX11_tie, cX11_tie, 3, (some .int), RX11, []) (1214, 118, 2) aC_123 3 = true := by decide +kernel
set_option maxRecDepth 100000 in
set_option maxHeartbeats 4000000 in
theorem ok_124 : o_meth (yX11_lasts, cX11_lasts, 3, (some .int), RX11, []) (1222, 118, 2) aC_124 3 = true := by decide +kernel
set_option maxRecDepth 100000 in
set_option maxHeartbeats 4000000 in
theorem ok_125 : o_meth (yX11_would, cX11_would, 7, (some .int), RX11, []) (1230, 118, 6) aC_125 7 = true := by decide +kernel
set_option maxRecDepth 100000 in
set_option maxHeartbeats 4000000 in
theorem ok_126 : o_meth (yX11_can, cX11_can, 3, (some .boolean), RX11, []) (1240, 118, 2) aC_126 3 = true := by decide +kernel
set_option maxRecDepth 100000 in
set_option maxHeartbeats 4000000 in
theorem ok_127 : o_meth (yX11_cost, cX11_cost, 5, (some .int), RX11, []) (610, 118, 0) aC_127 5 = true := by decide +kernel
set_option maxRecDepth 100000 in
set_option maxHeartbeats 4000000 in
theorem ok_128 : o_meth (yX11_ties, cX11_ties, 3, (some .int), RX11, []) (1248, 118, 1) aC_128 3 = true := by decide +kernel
set_option maxRecDepth 100000 in
set_option maxHeartbeats 4000000 in
theorem ok_129 : o_meth (yX11_best, cX11_best, 2, (some .int), RX11, []) (1255, 118, 1) aC_129 2 = true := by decide +kernel
set_option maxRecDepth 100000 in
set_option maxHeartbeats 4000000 in
theorem ok_130 : o_meth (yX11_bestAt, cX11_bestAt, 3, (some .int), RX11, []) (1300, 118, 2) aC_130 3 = true := by decide +kernel
set_option maxRecDepth 100000 in
set_option maxHeartbeats 4000000 in
theorem ok_131 : o_meth (yX11_rather, cX11_rather, 7, (some .int), RX11, []) (1312, 118, 1) aC_131 7 = true := by decide +kernel
set_option maxRecDepth 100000 in
set_option maxHeartbeats 4000000 in
theorem ok_132 : o_meth (yX11_load, cX11_load, 1, (some .int), RX11, []) (625, 118, 0) aC_132 1 = true := by decide +kernel
set_option maxRecDepth 100000 in
set_option maxHeartbeats 4000000 in
theorem ok_133 : o_meth (yX11_loaded, cX11_loaded, 2, (some .int), RX11, []) (1319, 118, 1) aC_133 2 = true := by decide +kernel
set_option maxRecDepth 100000 in
set_option maxHeartbeats 4000000 in
theorem ok_134 : o_meth (yX11_shunts, cX11_shunts, 4, (some .int), RX11, []) (654, 118, 0) aC_134 4 = true := by decide +kernel
set_option maxRecDepth 100000 in
set_option maxHeartbeats 4000000 in
theorem ok_135 : o_meth (yX11_crew, cX11_crew, 2, (some .int), RX11, []) (1326, 118, 1) aC_135 2 = true := by decide +kernel
set_option maxRecDepth 100000 in
set_option maxHeartbeats 4000000 in
theorem ok_136 : o_meth (yX11_crewOf, cX11_crewOf, 3, (some .int), RX11, []) (1349, 118, 2) aC_136 3 = true := by decide +kernel
set_option maxRecDepth 100000 in
set_option maxHeartbeats 4000000 in
theorem ok_137 : o_meth (yX11_behind, cX11_behind, 2, (some .int), RX11, []) (1356, 118, 1) aC_137 2 = true := by decide +kernel
set_option maxRecDepth 100000 in
set_option maxHeartbeats 4000000 in
theorem ok_138 : o_meth (yX11_overtakes, cX11_overtakes, 4, (some .int), RX11, []) (1364, 118, 3) aC_138 4 = true := by decide +kernel
set_option maxRecDepth 100000 in
set_option maxHeartbeats 4000000 in
theorem ok_139 : o_meth (yX11_way, cX11_way, 3, (some .int), RX11, []) (1374, 118, 2) aC_139 3 = true := by decide +kernel
set_option maxRecDepth 100000 in
set_option maxHeartbeats 4000000 in
theorem ok_140 : o_meth (yX11_water, cX11_water, 3, (some .int), RX11, []) (1393, 118, 1) aC_140 3 = true := by decide +kernel
set_option maxRecDepth 100000 in
set_option maxHeartbeats 4000000 in
theorem ok_141 : o_meth (yX11_prefer, cX11_prefer, 3, (some .int), RX11, []) (1400, 118, 2) aC_141 3 = true := by decide +kernel
set_option maxRecDepth 100000 in
set_option maxHeartbeats 4000000 in
theorem ok_142 : o_meth (yX11_wins, cX11_wins, 4, (some .int), RX11, []) (1412, 118, 3) aC_142 4 = true := by decide +kernel
set_option maxRecDepth 100000 in
set_option maxHeartbeats 4000000 in
theorem ok_143 : o_meth (yX11_agendas, cX11_agendas, 6, (some .int), RX11, []) (1428, 118, 2) aC_143 6 = true := by decide +kernel
set_option maxRecDepth 100000 in
set_option maxHeartbeats 4000000 in
theorem ok_144 : o_meth (yX11_beats, cX11_beats, 4, (some .int), RX11, []) (663, 118, 0) aC_144 4 = true := by decide +kernel
set_option maxRecDepth 100000 in
set_option maxHeartbeats 4000000 in
theorem ok_145 : o_meth (yX11_fits, cX11_fits, 1, (some .int), RX11, []) (671, 118, 0) aC_145 1 = true := by decide +kernel
set_option maxRecDepth 100000 in
set_option maxHeartbeats 4000000 in
theorem ok_146 : o_meth (yX11_look, cX11_look, 7, (some .int), RX11, []) (1435, 118, 1) aC_146 7 = true := by decide +kernel
set_option maxRecDepth 100000 in
set_option maxHeartbeats 4000000 in
theorem ok_147 : o_meth (yX11_stood, cX11_stood, 3, (some .int), RX11, []) (1447, 118, 2) aC_147 3 = true := by decide +kernel
set_option maxRecDepth 100000 in
set_option maxHeartbeats 4000000 in
theorem ok_148 : o_meth (yX11_mild, cX11_mild, 8, (some .long), RX11, []) (1455, 118, 2) aC_148 8 = true := by decide +kernel
set_option maxRecDepth 100000 in
set_option maxHeartbeats 4000000 in
theorem ok_149 : o_meth (yX11_ahead, cX11_ahead, 10, (some .long), RX11, []) (1466, 118, 2) aC_149 10 = true := by decide +kernel
set_option maxRecDepth 100000 in
set_option maxHeartbeats 4000000 in
theorem ok_150 : o_meth (yX11_season, cX11_season, 4, (some .int), RX11, []) (1473, 118, 3) aC_150 4 = true := by decide +kernel
set_option maxRecDepth 100000 in
set_option maxHeartbeats 4000000 in
theorem ok_151 : o_meth (yX11_span, cX11_span, 12, (some .int), RX11, []) (1495, 118, 5) aC_151 12 = true := by decide +kernel
set_option maxRecDepth 100000 in
set_option maxHeartbeats 4000000 in
theorem ok_152 : o_meth (yX11_image, cX11_image, 1, (some .int), RX11, []) (688, 118, 0) aC_152 1 = true := by decide +kernel
set_option maxRecDepth 100000 in
set_option maxHeartbeats 4000000 in
theorem ok_153 : o_meth (yX11_restore, cX11_restore, 2, (some .int), RX11, []) (692, 118, 0) aC_153 2 = true := by decide +kernel
set_option maxRecDepth 100000 in
set_option maxHeartbeats 4000000 in
theorem ok_154 : o_meth (yX11_status, cX11_status, 2, (some .int), RX11, []) (696, 118, 1) aC_154 2 = true := by decide +kernel
set_option maxRecDepth 100000 in
set_option maxHeartbeats 4000000 in
theorem ok_155 : o_meth (yX11_count, cX11_count, 2, (some .int), RX11, []) (700, 118, 1) aC_155 2 = true := by decide +kernel
set_option maxRecDepth 100000 in
set_option maxHeartbeats 4000000 in
theorem ok_156 : o_meth (yX11_seedsDiffer, cX11_seedsDiffer, 1, (some .boolean), RX11, []) (1499, 118, 0) aC_156 1 = true := by decide +kernel
set_option maxRecDepth 100000 in
set_option maxHeartbeats 4000000 in
theorem ok_157 : o_meth (yX11_openText, cX11_openText, 3, none, RX11, []) (712, 118, 2) aC_157 3 = true := by decide +kernel
set_option maxRecDepth 100000 in
set_option maxHeartbeats 4000000 in
theorem ok_158 : o_meth (yX11_forgetImages, cX11_forgetImages, 2, none, RX11, []) (960, 118, 0) aC_158 2 = true := by decide +kernel
set_option maxRecDepth 100000 in
set_option maxHeartbeats 4000000 in
theorem ok_159 : o_meth (yX11_needRange, cX11_needRange, 4, none, RX11, []) (719, 118, 3) aC_159 4 = true := by decide +kernel
set_option maxRecDepth 100000 in
set_option maxHeartbeats 4000000 in
theorem ok_160 : o_meth (yX11_needCell, cX11_needCell, 2, none, RX11, []) (1200, 118, 1) aC_160 2 = true := by decide +kernel
set_option maxRecDepth 100000 in
set_option maxHeartbeats 4000000 in
theorem ok_161 : o_meth (yX11_needBits, cX11_needBits, 2, none, RX11, []) (1263, 118, 1) aC_161 2 = true := by decide +kernel
set_option maxRecDepth 100000 in
set_option maxHeartbeats 4000000 in
theorem ok_162 : o_meth (yX11_needFew, cX11_needFew, 2, none, RX11, []) (1259, 118, 1) aC_162 2 = true := by decide +kernel
set_option maxRecDepth 100000 in
set_option maxHeartbeats 4000000 in
theorem ok_163 : o_meth (yX11_needTwoPlans, cX11_needTwoPlans, 3, none, RX11, []) (1404, 118, 2) aC_163 3 = true := by decide +kernel
set_option maxRecDepth 100000 in
set_option maxHeartbeats 4000000 in
theorem ok_164 : o_meth (yX11_needWagon, cX11_needWagon, 2, none, RX11, []) (1172, 118, 1) aC_164 2 = true := by decide +kernel
set_option maxRecDepth 100000 in
set_option maxHeartbeats 4000000 in
theorem ok_165 : o_meth (yX11_leastTerms, cX11_leastTerms, 12, (some .long), RX11, []) (1459, 118, 3) aC_165 12 = true := by decide +kernel
set_option maxRecDepth 100000 in
set_option maxHeartbeats 4000000 in
theorem ok_166 : o_meth (yX12_thrown, cX12_thrown, 1, (some .int), RX12, []) (1504, 132, 0) aC_166 1 = true := by decide +kernel
set_option maxRecDepth 100000 in
set_option maxHeartbeats 4000000 in
theorem ok_167 : o_meth (yX12_may, cX12_may, 4, (some .boolean), RX12, []) (1770, 132, 3) aC_167 4 = true := by decide +kernel
set_option maxRecDepth 100000 in
set_option maxHeartbeats 4000000 in
theorem ok_168 : o_meth (yX12_within, cX12_within, 3, (some .boolean), RX12, []) (1983, 132, 3) aC_168 3 = true := by decide +kernel
set_option maxRecDepth 100000 in
set_option maxHeartbeats 4000000 in
theorem ok_169 : o_meth (yX12_init, cX12_init, 1, none, RX12, []) (1509, 132, 0) aC_169 1 = true := by decide +kernel
set_option maxRecDepth 100000 in
set_option maxHeartbeats 4000000 in
theorem ok_170 : o_meth (yX12_feed, cX12_feed, 8, (some .int), RX12, []) (1758, 132, 5) aC_170 8 = true := by decide +kernel
set_option maxRecDepth 100000 in
set_option maxHeartbeats 4000000 in
theorem ok_171 : o_meth (yX12_fine, cX12_fine, 1, (some .boolean), RX12, []) (1778, 132, 0) aC_171 1 = true := by decide +kernel
set_option maxRecDepth 100000 in
set_option maxHeartbeats 4000000 in
theorem ok_172 : o_meth (yX12_wrong, cX12_wrong, 3, none, RX12, []) (1815, 132, 2) aC_172 3 = true := by decide +kernel
set_option maxRecDepth 100000 in
set_option maxHeartbeats 4000000 in
theorem ok_173 : o_meth (yX12_here, cX12_here, 1, (some .int), RX12, []) (1786, 132, 0) aC_173 1 = true := by decide +kernel
set_option maxRecDepth 100000 in
set_option maxHeartbeats 4000000 in
theorem ok_174 : o_meth (yX12_isSmall, cX12_isSmall, 1, (some .boolean), RX12, []) (1793, 132, 1) aC_174 1 = true := by decide +kernel
set_option maxRecDepth 100000 in
set_option maxHeartbeats 4000000 in
theorem ok_175 : o_meth (yX12_isDigit, cX12_isDigit, 1, (some .boolean), RX12, []) (1838, 132, 1) aC_175 1 = true := by decide +kernel
set_option maxRecDepth 100000 in
set_option maxHeartbeats 4000000 in
theorem ok_176 : o_meth (yX12_word, cX12_word, 4, (some .int), RX12, []) (1790, 132, 0) aC_176 4 = true := by decide +kernel
set_option maxRecDepth 100000 in
set_option maxHeartbeats 4000000 in
theorem ok_177 : o_meth (yX12_of, cX12_of, 3, (some .int), RX12, []) (1800, 132, 1) aC_177 3 = true := by decide +kernel
set_option maxRecDepth 100000 in
set_option maxHeartbeats 4000000 in
theorem ok_178 : o_meth (yX12_pass, cX12_pass, 1, none, RX12, []) (1823, 132, 0) aC_178 1 = true := by decide +kernel
set_option maxRecDepth 100000 in
set_option maxHeartbeats 4000000 in
theorem ok_179 : o_meth (yX12_readNumber, cX12_readNumber, 6, (some .int), RX12, []) (1835, 132, 2) aC_179 6 = true := by decide +kernel
set_option maxRecDepth 100000 in
set_option maxHeartbeats 4000000 in
theorem ok_180 : o_meth (yX12_sign, cX12_sign, 2, none, RX12, []) (1850, 132, 1) aC_180 2 = true := by decide +kernel
set_option maxRecDepth 100000 in
set_option maxHeartbeats 4000000 in
theorem ok_181 : o_meth (yX12_isMore, cX12_isMore, 1, (some .boolean), RX12, []) (1782, 132, 0) aC_181 1 = true := by decide +kernel
set_option maxRecDepth 100000 in
set_option maxHeartbeats 4000000 in
theorem ok_182 : o_meth (yX12_begins, cX12_begins, 2, none, RX12, []) (1774, 132, 1) aC_182 2 = true := by decide +kernel
set_option maxRecDepth 100000 in
set_option maxHeartbeats 4000000 in
theorem ok_183 : o_meth (yX12_result, cX12_result, 2, (some .int), RX12, []) (1854, 132, 1) aC_183 2 = true := by decide +kernel
set_option maxRecDepth 100000 in
set_option maxHeartbeats 4000000 in
theorem ok_184 : o_meth (yX12_fault, cX12_fault, 1, (some .int), RX12, []) (1762, 132, 0) aC_184 1 = true := by decide +kernel
set_option maxRecDepth 100000 in
set_option maxHeartbeats 4000000 in
theorem ok_185 : o_meth (yX12_clears, cX12_clears, 2, none, RX12, []) (1514, 132, 0) aC_185 2 = true := by decide +kernel
set_option maxRecDepth 100000 in
set_option maxHeartbeats 4000000 in
theorem ok_186 : o_meth (yX12_copies, cX12_copies, 5, none, RX12, []) (1522, 132, 3) aC_186 5 = true := by decide +kernel
set_option maxRecDepth 100000 in
set_option maxHeartbeats 4000000 in
theorem ok_187 : o_meth (yX12_sets, cX12_sets, 2, none, RX12, []) (1518, 132, 0) aC_187 2 = true := by decide +kernel
set_option maxRecDepth 100000 in
set_option maxHeartbeats 4000000 in
theorem ok_188 : o_meth (yX12_readWagon, cX12_readWagon, 2, none, RX12, []) (1831, 132, 0) aC_188 2 = true := by decide +kernel
set_option maxRecDepth 100000 in
set_option maxHeartbeats 4000000 in
theorem ok_189 : o_meth (yX12_readTie, cX12_readTie, 5, none, RX12, []) (1842, 132, 0) aC_189 5 = true := by decide +kernel
set_option maxRecDepth 100000 in
set_option maxHeartbeats 4000000 in
theorem ok_190 : o_meth (yX12_readVoter, cX12_readVoter, 6, none, RX12, []) (1846, 132, 0) aC_190 6 = true := by decide +kernel
set_option maxRecDepth 100000 in
set_option maxHeartbeats 4000000 in
theorem ok_191 : o_meth (yX12_readRow, cX12_readRow, 4, none, RX12, []) (1827, 132, 1) aC_191 4 = true := by decide +kernel
set_option maxRecDepth 100000 in
set_option maxHeartbeats 4000000 in
theorem ok_192 : o_meth (yX12_isRow, cX12_isRow, 1, (some .boolean), RX12, []) (1796, 132, 1) aC_192 1 = true := by decide +kernel
set_option maxRecDepth 100000 in
set_option maxHeartbeats 4000000 in
theorem ok_193 : o_meth (yX12_isFull, cX12_isFull, 2, (some .boolean), RX12, []) (1819, 132, 1) aC_193 2 = true := by decide +kernel
set_option maxRecDepth 100000 in
set_option maxHeartbeats 4000000 in
theorem ok_194 : o_meth (yX12_train, cX12_train, 4, (some .int), RX12, []) (1766, 132, 1) aC_194 4 = true := by decide +kernel
set_option maxRecDepth 100000 in
set_option maxHeartbeats 4000000 in
theorem ok_195 : o_meth (yX12_emit, cX12_emit, 3, none, RX12, []) (1878, 132, 2) aC_195 3 = true := by decide +kernel
set_option maxRecDepth 100000 in
set_option maxHeartbeats 4000000 in
theorem ok_196 : o_meth (yX12_opensOne, cX12_opensOne, 2, none, RX12, []) (1874, 132, 1) aC_196 2 = true := by decide +kernel
set_option maxRecDepth 100000 in
set_option maxHeartbeats 4000000 in
theorem ok_197 : o_meth (yX12_readSum, cX12_readSum, 2, none, RX12, []) (1862, 132, 0) aC_197 2 = true := by decide +kernel
set_option maxRecDepth 100000 in
set_option maxHeartbeats 4000000 in
theorem ok_198 : o_meth (yX12_readProduct, cX12_readProduct, 2, none, RX12, []) (1866, 132, 0) aC_198 2 = true := by decide +kernel
set_option maxRecDepth 100000 in
set_option maxHeartbeats 4000000 in
theorem ok_199 : o_meth (yX12_readTwo, cX12_readTwo, 3, none, RX12, []) (1883, 132, 2) aC_199 3 = true := by decide +kernel
set_option maxRecDepth 100000 in
set_option maxHeartbeats 4000000 in
theorem ok_200 : o_meth (yX12_factHere, cX12_factHere, 2, (some .int), RX12, []) (1888, 132, 0) aC_200 2 = true := by decide +kernel
set_option maxRecDepth 100000 in
set_option maxHeartbeats 4000000 in
theorem ok_201 : o_meth (yX12_readUnit, cX12_readUnit, 2, none, RX12, []) (1870, 132, 0) aC_201 2 = true := by decide +kernel
set_option maxRecDepth 100000 in
set_option maxHeartbeats 4000000 in
theorem ok_202 : o_meth (yX12_law, cX12_law, 3, (some .int), RX12, []) (1858, 132, 1) aC_202 3 = true := by decide +kernel
set_option maxRecDepth 100000 in
set_option maxHeartbeats 4000000 in
theorem ok_203 : o_meth (yX12_valueNow, cX12_valueNow, 4, (some .int), RX12, []) (1953, 132, 0) aC_203 4 = true := by decide +kernel
set_option maxRecDepth 100000 in
set_option maxHeartbeats 4000000 in
theorem ok_204 : o_meth (yX12_both, cX12_both, 3, (some .int), RX12, []) (1956, 132, 3) aC_204 3 = true := by decide +kernel
set_option maxRecDepth 100000 in
set_option maxHeartbeats 4000000 in
theorem ok_205 : o_meth (yX12_lastsNow, cX12_lastsNow, 2, (some .int), RX12, []) (1949, 132, 0) aC_205 2 = true := by decide +kernel
set_option maxRecDepth 100000 in
set_option maxHeartbeats 4000000 in
theorem ok_206 : o_meth (yX12_tellsStep, cX12_tellsStep, 4, none, RX12, []) (1910, 132, 3) aC_206 4 = true := by decide +kernel
set_option maxRecDepth 100000 in
set_option maxHeartbeats 4000000 in
theorem ok_207 : o_meth (yX12_readOne, cX12_readOne, 1, (some .int), RX12, []) (1906, 132, 0) aC_207 1 = true := by decide +kernel
set_option maxRecDepth 100000 in
set_option maxHeartbeats 4000000 in
theorem ok_208 : o_meth (yX12_readStep, cX12_readStep, 4, none, RX12, []) (1901, 132, 0) aC_208 4 = true := by decide +kernel
set_option maxRecDepth 100000 in
set_option maxHeartbeats 4000000 in
theorem ok_209 : o_meth (yX12_work, cX12_work, 4, (some .int), RX12, []) (1897, 132, 1) aC_209 4 = true := by decide +kernel
set_option maxRecDepth 100000 in
set_option maxHeartbeats 4000000 in
theorem ok_210 : o_meth (yX12_goesSteps, cX12_goesSteps, 6, none, RX12, []) (1921, 132, 2) aC_210 6 = true := by decide +kernel
set_option maxRecDepth 100000 in
set_option maxHeartbeats 4000000 in
theorem ok_211 : o_meth (yX12_take, cX12_take, 1, none, RX12, []) (1917, 132, 0) aC_211 1 = true := by decide +kernel
set_option maxRecDepth 100000 in
set_option maxHeartbeats 4000000 in
theorem ok_212 : o_meth (yX12_standing, cX12_standing, 3, (some .int), RX12, []) (1933, 132, 1) aC_212 3 = true := by decide +kernel
set_option maxRecDepth 100000 in
set_option maxHeartbeats 4000000 in
theorem ok_213 : o_meth (yX12_lastsOf, cX12_lastsOf, 3, (some .int), RX12, []) (1945, 132, 2) aC_213 3 = true := by decide +kernel
set_option maxRecDepth 100000 in
set_option maxHeartbeats 4000000 in
theorem ok_214 : o_meth (yX12_canLay, cX12_canLay, 4, (some .boolean), RX12, []) (1941, 132, 2) aC_214 4 = true := by decide +kernel
set_option maxRecDepth 100000 in
set_option maxHeartbeats 4000000 in
theorem ok_215 : o_meth (yX12_laysOne, cX12_laysOne, 3, (some .boolean), RX12, []) (1937, 132, 2) aC_215 3 = true := by decide +kernel
set_option maxRecDepth 100000 in
set_option maxHeartbeats 4000000 in
theorem ok_216 : o_meth (yX12_takesOne, cX12_takesOne, 4, (some .boolean), RX12, []) (1960, 132, 1) aC_216 4 = true := by decide +kernel
set_option maxRecDepth 100000 in
set_option maxHeartbeats 4000000 in
theorem ok_217 : o_meth (yX12_behindOf, cX12_behindOf, 2, (some .int), RX12, []) (1968, 132, 1) aC_217 2 = true := by decide +kernel
set_option maxRecDepth 100000 in
set_option maxHeartbeats 4000000 in
theorem ok_218 : o_meth (yX12_fetchesOne, cX12_fetchesOne, 3, (some .boolean), RX12, []) (1964, 132, 1) aC_218 3 = true := by decide +kernel
set_option maxRecDepth 100000 in
set_option maxHeartbeats 4000000 in
theorem ok_219 : o_meth (yX12_goesNext, cX12_goesNext, 3, (some .boolean), RX12, []) (1929, 132, 0) aC_219 3 = true := by decide +kernel
