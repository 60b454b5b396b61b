set_option maxRecDepth 100000 in
set_option maxHeartbeats 4000000 in
theorem g_lawc_1120 : o_all RL code (some .boolean) (decide (x.name = "<init>")) (a_code 324) 1120 (((a_code 324).drop 1120).take 80) = true := by decide +kernel
set_option maxRecDepth 100000 in
set_option maxHeartbeats 4000000 in
theorem g_lawc_1200 : o_all RL code (some .boolean) (decide (x.name = "<init>")) (a_code 324) 1200 (((a_code 324).drop 1200).take 80) = true := by decide +kernel
set_option maxRecDepth 100000 in
set_option maxHeartbeats 4000000 in
theorem g_lawc_1280 : o_all RL code (some .boolean) (decide (x.name = "<init>")) (a_code 324) 1280 (((a_code 324).drop 1280).take 80) = true := by decide +kernel
set_option maxRecDepth 100000 in
set_option maxHeartbeats 4000000 in
theorem g_lawc_1360 : o_all RL code (some .boolean) (decide (x.name = "<init>")) (a_code 324) 1360 (((a_code 324).drop 1360).take 80) = true := by decide +kernel
set_option maxRecDepth 100000 in
set_option maxHeartbeats 4000000 in
theorem g_lawc_1440 : o_all RL code (some .boolean) (decide (x.name = "<init>")) (a_code 324) 1440 (((a_code 324).drop 1440).take 80) = true := by decide +kernel
set_option maxRecDepth 100000 in
set_option maxHeartbeats 4000000 in
theorem g_lawc_1520 : o_all RL code (some .boolean) (decide (x.name = "<init>")) (a_code 324) 1520 (((a_code 324).drop 1520).take 80) = true := by decide +kernel
