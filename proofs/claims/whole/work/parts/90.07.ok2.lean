set_option maxRecDepth 100000 in
set_option maxHeartbeats 4000000 in
theorem ok_220 : o_meth (yX12_goes, cX12_goes, 4, (some .boolean), RX12, []) (1925, 132, 3) aC_220 4 = true := by decide +kernel
set_option maxRecDepth 100000 in
set_option maxHeartbeats 4000000 in
theorem ok_221 : o_meth (yX12_many, cX12_many, 4, (some .int), RX12, []) (1987, 132, 1) aC_221 4 = true := by decide +kernel
set_option maxRecDepth 100000 in
set_option maxHeartbeats 4000000 in
theorem ok_222 : o_meth (yX12_book, cX12_book, 6, (some .int), RX12, []) (1972, 132, 1) aC_222 6 = true := by decide +kernel
set_option maxRecDepth 100000 in
set_option maxHeartbeats 4000000 in
theorem ok_223 : o_meth (yX12_undo, cX12_undo, 2, (some .int), RX12, []) (1976, 132, 0) aC_223 2 = true := by decide +kernel
set_option maxRecDepth 100000 in
set_option maxHeartbeats 4000000 in
theorem ok_224 : o_meth (yX12_told, cX12_told, 2, (some .int), RX12, []) (1980, 132, 1) aC_224 2 = true := by decide +kernel
set_option maxRecDepth 100000 in
set_option maxHeartbeats 4000000 in
theorem ok_225 : o_meth (yX12_isWagon, cX12_isWagon, 3, (some .boolean), RX12, []) (1995, 132, 2) aC_225 3 = true := by decide +kernel
set_option maxRecDepth 100000 in
set_option maxHeartbeats 4000000 in
theorem ok_226 : o_meth (yX12_isCell, cX12_isCell, 1, (some .boolean), RX12, []) (2002, 132, 1) aC_226 1 = true := by decide +kernel
set_option maxRecDepth 100000 in
set_option maxHeartbeats 4000000 in
theorem ok_227 : o_meth (yX12_wagon, cX12_wagon, 3, (some .int), RX12, []) (1991, 132, 2) aC_227 3 = true := by decide +kernel
set_option maxRecDepth 100000 in
set_option maxHeartbeats 4000000 in
theorem ok_228 : o_meth (yX12_stands, cX12_stands, 2, (some .int), RX12, []) (1999, 132, 1) aC_228 2 = true := by decide +kernel
set_option maxRecDepth 100000 in
set_option maxHeartbeats 4000000 in
theorem ok_229 : o_meth (yX12_ground, cX12_ground, 2, (some .int), RX12, []) (2006, 132, 1) aC_229 2 = true := by decide +kernel
set_option maxRecDepth 100000 in
set_option maxHeartbeats 4000000 in
theorem ok_230 : o_meth (yX12_tie, cX12_tie, 3, (some .int), RX12, []) (2010, 132, 2) aC_230 3 = true := by decide +kernel
set_option maxRecDepth 100000 in
set_option maxHeartbeats 4000000 in
theorem ok_231 : o_meth (yX12_lasts, cX12_lasts, 3, (some .int), RX12, []) (2014, 132, 2) aC_231 3 = true := by decide +kernel
set_option maxRecDepth 100000 in
set_option maxHeartbeats 4000000 in
theorem ok_232 : o_meth (yX12_would, cX12_would, 7, (some .int), RX12, []) (2018, 132, 6) aC_232 7 = true := by decide +kernel
set_option maxRecDepth 100000 in
set_option maxHeartbeats 4000000 in
theorem ok_233 : o_meth (yX12_can, cX12_can, 3, (some .boolean), RX12, []) (2022, 132, 2) aC_233 3 = true := by decide +kernel
set_option maxRecDepth 100000 in
set_option maxHeartbeats 4000000 in
theorem ok_234 : o_meth (yX12_takesCells, cX12_takesCells, 2, none, RX12, []) (2030, 132, 0) aC_234 2 = true := by decide +kernel
set_option maxRecDepth 100000 in
set_option maxHeartbeats 4000000 in
theorem ok_235 : o_meth (yX12_tiesOf, cX12_tiesOf, 4, (some .int), RX12, []) (2038, 132, 1) aC_235 4 = true := by decide +kernel
set_option maxRecDepth 100000 in
set_option maxHeartbeats 4000000 in
theorem ok_236 : o_meth (yX12_costNow, cX12_costNow, 4, (some .int), RX12, []) (2034, 132, 0) aC_236 4 = true := by decide +kernel
set_option maxRecDepth 100000 in
set_option maxHeartbeats 4000000 in
theorem ok_237 : o_meth (yX12_cost, cX12_cost, 1, (some .int), RX12, []) (2026, 132, 0) aC_237 1 = true := by decide +kernel
set_option maxRecDepth 100000 in
set_option maxHeartbeats 4000000 in
theorem ok_238 : o_meth (yX12_ties, cX12_ties, 2, (some .int), RX12, []) (2042, 132, 1) aC_238 2 = true := by decide +kernel
set_option maxRecDepth 100000 in
set_option maxHeartbeats 4000000 in
theorem ok_239 : o_meth (yX12_townsOn, cX12_townsOn, 6, none, RX12, []) (2055, 132, 4) aC_239 6 = true := by decide +kernel
set_option maxRecDepth 100000 in
set_option maxHeartbeats 4000000 in
theorem ok_240 : o_meth (yX12_findBest, cX12_findBest, 5, (some .boolean), RX12, []) (2050, 132, 2) aC_240 5 = true := by decide +kernel
set_option maxRecDepth 100000 in
set_option maxHeartbeats 4000000 in
theorem ok_241 : o_meth (yX12_best, cX12_best, 2, (some .int), RX12, []) (2046, 132, 1) aC_241 2 = true := by decide +kernel
set_option maxRecDepth 100000 in
set_option maxHeartbeats 4000000 in
theorem ok_242 : o_meth (yX12_bestAt, cX12_bestAt, 3, (some .int), RX12, []) (2059, 132, 2) aC_242 3 = true := by decide +kernel
set_option maxRecDepth 100000 in
set_option maxHeartbeats 4000000 in
theorem ok_243 : o_meth (yX12_rather, cX12_rather, 5, (some .int), RX12, []) (2063, 132, 1) aC_243 5 = true := by decide +kernel
set_option maxRecDepth 100000 in
set_option maxHeartbeats 4000000 in
theorem ok_244 : o_meth (yX12_mayFollow, cX12_mayFollow, 3, (some .boolean), RX12, []) (2075, 132, 2) aC_244 3 = true := by decide +kernel
set_option maxRecDepth 100000 in
set_option maxHeartbeats 4000000 in
theorem ok_245 : o_meth (yX12_ones, cX12_ones, 4, (some .int), RX12, []) (2079, 132, 1) aC_245 4 = true := by decide +kernel
set_option maxRecDepth 100000 in
set_option maxHeartbeats 4000000 in
theorem ok_246 : o_meth (yX12_findLoad, cX12_findLoad, 6, none, RX12, []) (2071, 132, 0) aC_246 6 = true := by decide +kernel
set_option maxRecDepth 100000 in
set_option maxHeartbeats 4000000 in
theorem ok_247 : o_meth (yX12_load, cX12_load, 1, (some .int), RX12, []) (2067, 132, 0) aC_247 1 = true := by decide +kernel
set_option maxRecDepth 100000 in
set_option maxHeartbeats 4000000 in
theorem ok_248 : o_meth (yX12_loaded, cX12_loaded, 2, (some .int), RX12, []) (2083, 132, 1) aC_248 2 = true := by decide +kernel
set_option maxRecDepth 100000 in
set_option maxHeartbeats 4000000 in
theorem ok_249 : o_meth (yX12_shunts, cX12_shunts, 4, (some .int), RX12, []) (2087, 132, 0) aC_249 4 = true := by decide +kernel
set_option maxRecDepth 100000 in
set_option maxHeartbeats 4000000 in
theorem ok_250 : o_meth (yX12_crewsOn, cX12_crewsOn, 6, none, RX12, []) (2099, 132, 2) aC_250 6 = true := by decide +kernel
set_option maxRecDepth 100000 in
set_option maxHeartbeats 4000000 in
theorem ok_251 : o_meth (yX12_findCrew, cX12_findCrew, 4, (some .boolean), RX12, []) (2095, 132, 2) aC_251 4 = true := by decide +kernel
set_option maxRecDepth 100000 in
set_option maxHeartbeats 4000000 in
theorem ok_252 : o_meth (yX12_crew, cX12_crew, 2, (some .int), RX12, []) (2091, 132, 1) aC_252 2 = true := by decide +kernel
set_option maxRecDepth 100000 in
set_option maxHeartbeats 4000000 in
theorem ok_253 : o_meth (yX12_crewOf, cX12_crewOf, 3, (some .int), RX12, []) (2103, 132, 2) aC_253 3 = true := by decide +kernel
set_option maxRecDepth 100000 in
set_option maxHeartbeats 4000000 in
theorem ok_254 : o_meth (yX12_behind, cX12_behind, 2, (some .int), RX12, []) (2107, 132, 1) aC_254 2 = true := by decide +kernel
set_option maxRecDepth 100000 in
set_option maxHeartbeats 4000000 in
theorem ok_255 : o_meth (yX12_overtakes, cX12_overtakes, 6, (some .int), RX12, []) (2111, 132, 3) aC_255 6 = true := by decide +kernel
set_option maxRecDepth 100000 in
set_option maxHeartbeats 4000000 in
theorem ok_256 : o_meth (yX12_isWell, cX12_isWell, 3, (some .boolean), RX12, []) (2123, 132, 1) aC_256 3 = true := by decide +kernel
set_option maxRecDepth 100000 in
set_option maxHeartbeats 4000000 in
theorem ok_257 : o_meth (yX12_wayOf, cX12_wayOf, 8, (some .int), RX12, []) (2119, 132, 2) aC_257 8 = true := by decide +kernel
set_option maxRecDepth 100000 in
set_option maxHeartbeats 4000000 in
theorem ok_258 : o_meth (yX12_way, cX12_way, 3, (some .int), RX12, []) (2115, 132, 2) aC_258 3 = true := by decide +kernel
set_option maxRecDepth 100000 in
set_option maxHeartbeats 4000000 in
theorem ok_259 : o_meth (yX12_water, cX12_water, 3, (some .int), RX12, []) (2127, 132, 1) aC_259 3 = true := by decide +kernel
set_option maxRecDepth 100000 in
set_option maxHeartbeats 4000000 in
theorem ok_260 : o_meth (yX12_likes, cX12_likes, 5, (some .boolean), RX12, []) (2142, 132, 3) aC_260 5 = true := by decide +kernel
set_option maxRecDepth 100000 in
set_option maxHeartbeats 4000000 in
theorem ok_261 : o_meth (yX12_liking, cX12_liking, 5, (some .int), RX12, []) (2138, 132, 2) aC_261 5 = true := by decide +kernel
set_option maxRecDepth 100000 in
set_option maxHeartbeats 4000000 in
theorem ok_262 : o_meth (yX12_voted, cX12_voted, 3, (some .int), RX12, []) (2154, 132, 2) aC_262 3 = true := by decide +kernel
set_option maxRecDepth 100000 in
set_option maxHeartbeats 4000000 in
theorem ok_263 : o_meth (yX12_winsBy, cX12_winsBy, 7, (some .int), RX12, []) (2150, 132, 3) aC_263 7 = true := by decide +kernel
set_option maxRecDepth 100000 in
set_option maxHeartbeats 4000000 in
theorem ok_264 : o_meth (yX12_isPlan, cX12_isPlan, 1, (some .boolean), RX12, []) (2134, 132, 1) aC_264 1 = true := by decide +kernel
set_option maxRecDepth 100000 in
set_option maxHeartbeats 4000000 in
theorem ok_265 : o_meth (yX12_prefer, cX12_prefer, 3, (some .int), RX12, []) (2131, 132, 2) aC_265 3 = true := by decide +kernel
set_option maxRecDepth 100000 in
set_option maxHeartbeats 4000000 in
theorem ok_266 : o_meth (yX12_wins, cX12_wins, 4, (some .int), RX12, []) (2146, 132, 3) aC_266 4 = true := by decide +kernel
set_option maxRecDepth 100000 in
set_option maxHeartbeats 4000000 in
theorem ok_267 : o_meth (yX12_agendas, cX12_agendas, 5, (some .int), RX12, []) (2158, 132, 2) aC_267 5 = true := by decide +kernel
set_option maxRecDepth 100000 in
set_option maxHeartbeats 4000000 in
theorem ok_268 : o_meth (yX12_beats, cX12_beats, 4, (some .int), RX12, []) (2162, 132, 0) aC_268 4 = true := by decide +kernel
set_option maxRecDepth 100000 in
set_option maxHeartbeats 4000000 in
theorem ok_269 : o_meth (yX12_notedIn, cX12_notedIn, 3, (some .int), RX12, []) (2174, 132, 2) aC_269 3 = true := by decide +kernel
set_option maxRecDepth 100000 in
set_option maxHeartbeats 4000000 in
theorem ok_270 : o_meth (yX12_fitsNow, cX12_fitsNow, 5, (some .int), RX12, []) (2170, 132, 0) aC_270 5 = true := by decide +kernel
set_option maxRecDepth 100000 in
set_option maxHeartbeats 4000000 in
theorem ok_271 : o_meth (yX12_fits, cX12_fits, 1, (some .int), RX12, []) (2166, 132, 0) aC_271 1 = true := by decide +kernel
set_option maxRecDepth 100000 in
set_option maxHeartbeats 4000000 in
theorem ok_272 : o_meth (yX12_worstAt, cX12_worstAt, 6, (some .int), RX12, []) (2182, 132, 2) aC_272 6 = true := by decide +kernel
set_option maxRecDepth 100000 in
set_option maxHeartbeats 4000000 in
theorem ok_273 : o_meth (yX12_look, cX12_look, 7, (some .int), RX12, []) (2178, 132, 1) aC_273 7 = true := by decide +kernel
set_option maxRecDepth 100000 in
set_option maxHeartbeats 4000000 in
theorem ok_274 : o_meth (yX12_stood, cX12_stood, 3, (some .int), RX12, []) (2186, 132, 2) aC_274 3 = true := by decide +kernel
set_option maxRecDepth 100000 in
set_option maxHeartbeats 4000000 in
theorem ok_275 : o_meth (yX12_least, cX12_least, 11, (some .long), RX12, []) (2197, 132, 3) aC_275 11 = true := by decide +kernel
set_option maxRecDepth 100000 in
set_option maxHeartbeats 4000000 in
theorem ok_276 : o_meth (yX12_power, cX12_power, 6, (some .long), RX12, []) (2193, 132, 2) aC_276 6 = true := by decide +kernel
set_option maxRecDepth 100000 in
set_option maxHeartbeats 4000000 in
theorem ok_277 : o_meth (yX12_mild, cX12_mild, 3, (some .long), RX12, []) (2190, 132, 2) aC_277 3 = true := by decide +kernel
set_option maxRecDepth 100000 in
set_option maxHeartbeats 4000000 in
theorem ok_278 : o_meth (yX12_ahead, cX12_ahead, 6, (some .long), RX12, []) (2201, 132, 2) aC_278 6 = true := by decide +kernel
set_option maxRecDepth 100000 in
set_option maxHeartbeats 4000000 in
theorem ok_279 : o_meth (yX12_draws, cX12_draws, 1, (some .int), RX12, []) (2213, 132, 0) aC_279 1 = true := by decide +kernel
set_option maxRecDepth 100000 in
set_option maxHeartbeats 4000000 in
theorem ok_280 : o_meth (yX12_goesOn, cX12_goesOn, 7, none, RX12, []) (2209, 132, 2) aC_280 7 = true := by decide +kernel
set_option maxRecDepth 100000 in
set_option maxHeartbeats 4000000 in
theorem ok_281 : o_meth (yX12_season, cX12_season, 4, (some .int), RX12, []) (2205, 132, 3) aC_281 4 = true := by decide +kernel
set_option maxRecDepth 100000 in
set_option maxHeartbeats 4000000 in
theorem ok_282 : o_meth (yX12_span, cX12_span, 11, (some .int), RX12, []) (2218, 132, 5) aC_282 11 = true := by decide +kernel
set_option maxRecDepth 100000 in
set_option maxHeartbeats 4000000 in
theorem ok_283 : o_meth (yX12_keepsRow, cX12_keepsRow, 6, (some .int), RX12, []) (2230, 132, 4) aC_283 6 = true := by decide +kernel
set_option maxRecDepth 100000 in
set_option maxHeartbeats 4000000 in
theorem ok_284 : o_meth (yX12_keepsAll, cX12_keepsAll, 4, none, RX12, []) (2226, 132, 2) aC_284 4 = true := by decide +kernel
set_option maxRecDepth 100000 in
set_option maxHeartbeats 4000000 in
theorem ok_285 : o_meth (yX12_image, cX12_image, 1, (some .int), RX12, []) (2222, 132, 0) aC_285 1 = true := by decide +kernel
set_option maxRecDepth 100000 in
set_option maxHeartbeats 4000000 in
theorem ok_286 : o_meth (yX12_restore, cX12_restore, 1, (some .int), RX12, []) (2234, 132, 0) aC_286 1 = true := by decide +kernel
set_option maxRecDepth 100000 in
set_option maxHeartbeats 4000000 in
theorem ok_287 : o_meth (yX12_status, cX12_status, 2, (some .int), RX12, []) (2238, 132, 1) aC_287 2 = true := by decide +kernel
set_option maxRecDepth 100000 in
set_option maxHeartbeats 4000000 in
theorem ok_288 : o_meth (yX12_count, cX12_count, 2, (some .int), RX12, []) (2242, 132, 1) aC_288 2 = true := by decide +kernel
set_option maxRecDepth 100000 in
set_option maxHeartbeats 4000000 in
theorem ok_289 : o_meth (yJ6_bitCount_0f7a4, cJ6_bitCount_0f7a4, 1, (some .int), RJ6, []) (636, 142, 1) aC_289 1 = true := by decide +kernel
set_option maxRecDepth 100000 in
set_option maxHeartbeats 4000000 in
theorem ok_290 : o_meth (yJ7_fill_d0a16, cJ7_fill_d0a16, 5, none, RJ7, []) (1277, 123, 2) aC_290 5 = true := by decide +kernel
set_option maxRecDepth 100000 in
set_option maxHeartbeats 4000000 in
theorem ok_291 : o_meth (yJ7_fill_53178, cJ7_fill_53178, 4, none, RJ7, []) (252, 123, 2) aC_291 4 = true := by decide +kernel
set_option maxRecDepth 100000 in
set_option maxHeartbeats 4000000 in
theorem ok_292 : o_meth (yL_train, cL_train, 4, (some .int), RL, [(0, 9, 12, 13)]) (703, 117, 3) aC_292 4 = true := by decide +kernel
set_option maxRecDepth 100000 in
set_option maxHeartbeats 4000000 in
theorem ok_293 : o_meth (yL_law, cL_law, 4, (some .int), RL, [(0, 9, 12, 13)]) (963, 117, 3) aC_293 4 = true := by decide +kernel
set_option maxRecDepth 100000 in
set_option maxHeartbeats 4000000 in
theorem ok_294 : o_meth (yL_work, cL_work, 4, (some .int), RL, [(0, 9, 12, 13)]) (995, 117, 3) aC_294 4 = true := by decide +kernel
set_option maxRecDepth 100000 in
set_option maxHeartbeats 4000000 in
theorem ok_295 : o_meth (yL_book, cL_book, 4, (some .int), RL, [(0, 9, 12, 13)]) (1127, 117, 3) aC_295 4 = true := by decide +kernel
set_option maxRecDepth 100000 in
set_option maxHeartbeats 4000000 in
theorem ok_296 : o_meth (yL_told, cL_told, 4, (some .int), RL, [(0, 9, 12, 13)]) (1147, 117, 3) aC_296 4 = true := by decide +kernel
set_option maxRecDepth 100000 in
set_option maxHeartbeats 4000000 in
theorem ok_297 : o_meth (yL_wagon, cL_wagon, 5, (some .int), RL, [(0, 10, 13, 31), (0, 10, 17, 13)]) (1163, 117, 4) aC_297 5 = true := by decide +kernel
set_option maxRecDepth 100000 in
set_option maxHeartbeats 4000000 in
theorem ok_298 : o_meth (yL_stands, cL_stands, 4, (some .int), RL, [(0, 9, 12, 13)]) (1192, 117, 3) aC_298 4 = true := by decide +kernel
set_option maxRecDepth 100000 in
set_option maxHeartbeats 4000000 in
theorem ok_299 : o_meth (yL_ground, cL_ground, 4, (some .int), RL, [(0, 9, 12, 13)]) (1203, 117, 3) aC_299 4 = true := by decide +kernel
set_option maxRecDepth 100000 in
set_option maxHeartbeats 4000000 in
theorem ok_300 : o_meth (yL_tie, cL_tie, 5, (some .int), RL, [(0, 10, 13, 31)]) (1210, 117, 4) aC_300 5 = true := by decide +kernel
set_option maxRecDepth 100000 in
set_option maxHeartbeats 4000000 in
theorem ok_301 : o_meth (yL_lasts, cL_lasts, 5, (some .int), RL, [(0, 10, 13, 31), (0, 10, 17, 13)]) (1218, 117, 4) aC_301 5 = true := by decide +kernel
set_option maxRecDepth 100000 in
set_option maxHeartbeats 4000000 in
theorem ok_302 : o_meth (yL_would, cL_would, 9, (some .int), RL, [(0, 18, 21, 13)]) (1226, 117, 8) aC_302 9 = true := by decide +kernel
set_option maxRecDepth 100000 in
set_option maxHeartbeats 4000000 in
theorem ok_303 : o_meth (yL_can, cL_can, 5, (some .int), RL, [(0, 17, 20, 31), (0, 17, 24, 13)]) (1236, 117, 4) aC_303 5 = true := by decide +kernel
set_option maxRecDepth 100000 in
set_option maxHeartbeats 4000000 in
theorem ok_304 : o_meth (yL_ties, cL_ties, 4, (some .int), RL, [(0, 9, 12, 31)]) (1244, 117, 3) aC_304 4 = true := by decide +kernel
set_option maxRecDepth 100000 in
set_option maxHeartbeats 4000000 in
theorem ok_305 : o_meth (yL_best, cL_best, 4, (some .int), RL, [(0, 9, 12, 13)]) (1251, 117, 3) aC_305 4 = true := by decide +kernel
set_option maxRecDepth 100000 in
set_option maxHeartbeats 4000000 in
theorem ok_306 : o_meth (yL_bestAt, cL_bestAt, 5, (some .int), RL, [(0, 10, 13, 31), (0, 10, 17, 13)]) (1296, 117, 4) aC_306 5 = true := by decide +kernel
set_option maxRecDepth 100000 in
set_option maxHeartbeats 4000000 in
theorem ok_307 : o_meth (yL_rather, cL_rather, 4, (some .int), RL, [(0, 9, 12, 31)]) (1308, 117, 3) aC_307 4 = true := by decide +kernel
set_option maxRecDepth 100000 in
set_option maxHeartbeats 4000000 in
theorem ok_308 : o_meth (yL_loaded, cL_loaded, 4, (some .int), RL, [(0, 9, 12, 13)]) (1315, 117, 3) aC_308 4 = true := by decide +kernel
set_option maxRecDepth 100000 in
set_option maxHeartbeats 4000000 in
theorem ok_309 : o_meth (yL_crew, cL_crew, 4, (some .int), RL, [(0, 9, 12, 13)]) (1322, 117, 3) aC_309 4 = true := by decide +kernel
set_option maxRecDepth 100000 in
set_option maxHeartbeats 4000000 in
theorem ok_310 : o_meth (yL_crewOf, cL_crewOf, 5, (some .int), RL, [(0, 10, 13, 31), (0, 10, 17, 13)]) (1345, 117, 4) aC_310 5 = true := by decide +kernel
set_option maxRecDepth 100000 in
set_option maxHeartbeats 4000000 in
theorem ok_311 : o_meth (yL_behind, cL_behind, 4, (some .int), RL, [(0, 9, 12, 31)]) (1352, 117, 3) aC_311 4 = true := by decide +kernel
set_option maxRecDepth 100000 in
set_option maxHeartbeats 4000000 in
theorem ok_312 : o_meth (yL_overtakes, cL_overtakes, 6, (some .int), RL, [(0, 12, 15, 13)]) (1360, 117, 5) aC_312 6 = true := by decide +kernel
set_option maxRecDepth 100000 in
set_option maxHeartbeats 4000000 in
theorem ok_313 : o_meth (yL_way, cL_way, 5, (some .int), RL, [(0, 10, 13, 13)]) (1370, 117, 4) aC_313 5 = true := by decide +kernel
set_option maxRecDepth 100000 in
set_option maxHeartbeats 4000000 in
theorem ok_314 : o_meth (yL_water, cL_water, 4, (some .int), RL, [(0, 9, 12, 13)]) (1389, 117, 3) aC_314 4 = true := by decide +kernel
set_option maxRecDepth 100000 in
set_option maxHeartbeats 4000000 in
theorem ok_315 : o_meth (yL_prefer, cL_prefer, 5, (some .int), RL, [(0, 10, 13, 13)]) (1396, 117, 4) aC_315 5 = true := by decide +kernel
set_option maxRecDepth 100000 in
set_option maxHeartbeats 4000000 in
theorem ok_316 : o_meth (yL_wins, cL_wins, 6, (some .int), RL, [(0, 12, 15, 13)]) (1408, 117, 5) aC_316 6 = true := by decide +kernel
set_option maxRecDepth 100000 in
set_option maxHeartbeats 4000000 in
theorem ok_317 : o_meth (yL_agendas, cL_agendas, 5, (some .int), RL, [(0, 10, 13, 13)]) (1424, 117, 4) aC_317 5 = true := by decide +kernel
set_option maxRecDepth 100000 in
set_option maxHeartbeats 4000000 in
theorem ok_318 : o_meth (yL_look, cL_look, 4, (some .int), RL, [(0, 9, 12, 13)]) (1431, 117, 3) aC_318 4 = true := by decide +kernel
set_option maxRecDepth 100000 in
set_option maxHeartbeats 4000000 in
theorem ok_319 : o_meth (yL_stood, cL_stood, 5, (some .int), RL, [(0, 10, 13, 13)]) (1443, 117, 4) aC_319 5 = true := by decide +kernel
set_option maxRecDepth 100000 in
set_option maxHeartbeats 4000000 in
theorem ok_320 : o_meth (yL_mild, cL_mild, 5, (some .int), RL, [(0, 9, 12, 13)]) (1451, 117, 4) aC_320 5 = true := by decide +kernel
set_option maxRecDepth 100000 in
set_option maxHeartbeats 4000000 in
theorem ok_321 : o_meth (yL_ahead, cL_ahead, 5, (some .int), RL, [(0, 9, 12, 13)]) (1462, 117, 4) aC_321 5 = true := by decide +kernel
set_option maxRecDepth 100000 in
set_option maxHeartbeats 4000000 in
theorem ok_322 : o_meth (yL_season, cL_season, 6, (some .int), RL, [(0, 12, 15, 13)]) (1469, 117, 5) aC_322 6 = true := by decide +kernel
set_option maxRecDepth 100000 in
set_option maxHeartbeats 4000000 in
theorem ok_323 : o_meth (yL_span, cL_span, 8, (some .int), RL, [(0, 16, 19, 13)]) (1491, 117, 7) aC_323 8 = true := by decide +kernel
