set_option maxRecDepth 100000 in
set_option maxHeartbeats 4000000 in
theorem g_lawc_0 : o_all RL code (some .boolean) (decide (x.name = "<init>")) (a_code 324) 0 (((a_code 324).drop 0).take 80) = true := by decide +kernel
set_option maxRecDepth 100000 in
set_option maxHeartbeats 4000000 in
theorem g_lawc_80 : o_all RL code (some .boolean) (decide (x.name = "<init>")) (a_code 324) 80 (((a_code 324).drop 80).take 80) = true := by decide +kernel
set_option maxRecDepth 100000 in
set_option maxHeartbeats 4000000 in
theorem g_lawc_160 : o_all RL code (some .boolean) (decide (x.name = "<init>")) (a_code 324) 160 (((a_code 324).drop 160).take 80) = true := by decide +kernel
set_option maxRecDepth 100000 in
set_option maxHeartbeats 4000000 in
theorem g_lawc_240 : o_all RL code (some .boolean) (decide (x.name = "<init>")) (a_code 324) 240 (((a_code 324).drop 240).take 80) = true := by decide +kernel
set_option maxRecDepth 100000 in
set_option maxHeartbeats 4000000 in
theorem g_lawc_320 : o_all RL code (some .boolean) (decide (x.name = "<init>")) (a_code 324) 320 (((a_code 324).drop 320).take 80) = true := by decide +kernel
set_option maxRecDepth 100000 in
set_option maxHeartbeats 4000000 in
theorem g_lawc_400 : o_all RL code (some .boolean) (decide (x.name = "<init>")) (a_code 324) 400 (((a_code 324).drop 400).take 80) = true := by decide +kernel
set_option maxRecDepth 100000 in
set_option maxHeartbeats 4000000 in
theorem g_lawc_480 : o_all RL code (some .boolean) (decide (x.name = "<init>")) (a_code 324) 480 (((a_code 324).drop 480).take 80) = true := by decide +kernel
