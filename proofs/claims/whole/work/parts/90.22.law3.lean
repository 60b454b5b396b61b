set_option maxRecDepth 100000 in
set_option maxHeartbeats 4000000 in
theorem g_lawc_1200 : o_all RL code (some .boolean) (decide (x.name = "<init>")) (a_code 324) 1200 (((a_code 324).drop 1200).take 20) = true := by decide +kernel
set_option maxRecDepth 100000 in
set_option maxHeartbeats 4000000 in
theorem g_lawc_1220 : o_all RL code (some .boolean) (decide (x.name = "<init>")) (a_code 324) 1220 (((a_code 324).drop 1220).take 20) = true := by decide +kernel
set_option maxRecDepth 100000 in
set_option maxHeartbeats 4000000 in
theorem g_lawc_1240 : o_all RL code (some .boolean) (decide (x.name = "<init>")) (a_code 324) 1240 (((a_code 324).drop 1240).take 20) = true := by decide +kernel
set_option maxRecDepth 100000 in
set_option maxHeartbeats 4000000 in
theorem g_lawc_1260 : o_all RL code (some .boolean) (decide (x.name = "<init>")) (a_code 324) 1260 (((a_code 324).drop 1260).take 20) = true := by decide +kernel
set_option maxRecDepth 100000 in
set_option maxHeartbeats 4000000 in
theorem g_lawc_1280 : o_all RL code (some .boolean) (decide (x.name = "<init>")) (a_code 324) 1280 (((a_code 324).drop 1280).take 20) = true := by decide +kernel
set_option maxRecDepth 100000 in
set_option maxHeartbeats 4000000 in
theorem g_lawc_1300 : o_all RL code (some .boolean) (decide (x.name = "<init>")) (a_code 324) 1300 (((a_code 324).drop 1300).take 20) = true := by decide +kernel
set_option maxRecDepth 100000 in
set_option maxHeartbeats 4000000 in
theorem g_lawc_1320 : o_all RL code (some .boolean) (decide (x.name = "<init>")) (a_code 324) 1320 (((a_code 324).drop 1320).take 20) = true := by decide +kernel
set_option maxRecDepth 100000 in
set_option maxHeartbeats 4000000 in
theorem g_lawc_1340 : o_all RL code (some .boolean) (decide (x.name = "<init>")) (a_code 324) 1340 (((a_code 324).drop 1340).take 20) = true := by decide +kernel
set_option maxRecDepth 100000 in
set_option maxHeartbeats 4000000 in
theorem g_lawc_1360 : o_all RL code (some .boolean) (decide (x.name = "<init>")) (a_code 324) 1360 (((a_code 324).drop 1360).take 20) = true := by decide +kernel
set_option maxRecDepth 100000 in
set_option maxHeartbeats 4000000 in
theorem g_lawc_1380 : o_all RL code (some .boolean) (decide (x.name = "<init>")) (a_code 324) 1380 (((a_code 324).drop 1380).take 20) = true := by decide +kernel
set_option maxRecDepth 100000 in
set_option maxHeartbeats 4000000 in
theorem g_lawc_1400 : o_all RL code (some .boolean) (decide (x.name = "<init>")) (a_code 324) 1400 (((a_code 324).drop 1400).take 20) = true := by decide +kernel
set_option maxRecDepth 100000 in
set_option maxHeartbeats 4000000 in
theorem g_lawc_1420 : o_all RL code (some .boolean) (decide (x.name = "<init>")) (a_code 324) 1420 (((a_code 324).drop 1420).take 20) = true := by decide +kernel
set_option maxRecDepth 100000 in
set_option maxHeartbeats 4000000 in
theorem g_lawc_1440 : o_all RL code (some .boolean) (decide (x.name = "<init>")) (a_code 324) 1440 (((a_code 324).drop 1440).take 20) = true := by decide +kernel
set_option maxRecDepth 100000 in
set_option maxHeartbeats 4000000 in
theorem g_lawc_1460 : o_all RL code (some .boolean) (decide (x.name = "<init>")) (a_code 324) 1460 (((a_code 324).drop 1460).take 20) = true := by decide +kernel
set_option maxRecDepth 100000 in
set_option maxHeartbeats 4000000 in
theorem g_lawc_1480 : o_all RL code (some .boolean) (decide (x.name = "<init>")) (a_code 324) 1480 (((a_code 324).drop 1480).take 20) = true := by decide +kernel
set_option maxRecDepth 100000 in
set_option maxHeartbeats 4000000 in
theorem g_lawc_1500 : o_all RL code (some .boolean) (decide (x.name = "<init>")) (a_code 324) 1500 (((a_code 324).drop 1500).take 20) = true := by decide +kernel
set_option maxRecDepth 100000 in
set_option maxHeartbeats 4000000 in
theorem g_lawc_1520 : o_all RL code (some .boolean) (decide (x.name = "<init>")) (a_code 324) 1520 (((a_code 324).drop 1520).take 20) = true := by decide +kernel
set_option maxRecDepth 100000 in
set_option maxHeartbeats 4000000 in
theorem g_lawc_1540 : o_all RL code (some .boolean) (decide (x.name = "<init>")) (a_code 324) 1540 (((a_code 324).drop 1540).take 20) = true := by decide +kernel
set_option maxRecDepth 100000 in
set_option maxHeartbeats 4000000 in
theorem g_lawc_1560 : o_all RL code (some .boolean) (decide (x.name = "<init>")) (a_code 324) 1560 (((a_code 324).drop 1560).take 20) = true := by decide +kernel
set_option maxRecDepth 100000 in
set_option maxHeartbeats 4000000 in
theorem g_lawc_1580 : o_all RL code (some .boolean) (decide (x.name = "<init>")) (a_code 324) 1580 (((a_code 324).drop 1580).take 20) = true := by decide +kernel
