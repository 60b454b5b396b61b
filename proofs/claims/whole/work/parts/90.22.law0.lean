set_option maxRecDepth 100000 in
set_option maxHeartbeats 4000000 in
theorem g_lawc_0 : o_all RL code (some .boolean) (decide (x.name = "<init>")) (a_code 324) 0 (((a_code 324).drop 0).take 20) = true := by decide +kernel
set_option maxRecDepth 100000 in
set_option maxHeartbeats 4000000 in
theorem g_lawc_20 : o_all RL code (some .boolean) (decide (x.name = "<init>")) (a_code 324) 20 (((a_code 324).drop 20).take 20) = true := by decide +kernel
set_option maxRecDepth 100000 in
set_option maxHeartbeats 4000000 in
theorem g_lawc_40 : o_all RL code (some .boolean) (decide (x.name = "<init>")) (a_code 324) 40 (((a_code 324).drop 40).take 20) = true := by decide +kernel
set_option maxRecDepth 100000 in
set_option maxHeartbeats 4000000 in
theorem g_lawc_60 : o_all RL code (some .boolean) (decide (x.name = "<init>")) (a_code 324) 60 (((a_code 324).drop 60).take 20) = true := by decide +kernel
set_option maxRecDepth 100000 in
set_option maxHeartbeats 4000000 in
theorem g_lawc_80 : o_all RL code (some .boolean) (decide (x.name = "<init>")) (a_code 324) 80 (((a_code 324).drop 80).take 20) = true := by decide +kernel
set_option maxRecDepth 100000 in
set_option maxHeartbeats 4000000 in
theorem g_lawc_100 : o_all RL code (some .boolean) (decide (x.name = "<init>")) (a_code 324) 100 (((a_code 324).drop 100).take 20) = true := by decide +kernel
set_option maxRecDepth 100000 in
set_option maxHeartbeats 4000000 in
theorem g_lawc_120 : o_all RL code (some .boolean) (decide (x.name = "<init>")) (a_code 324) 120 (((a_code 324).drop 120).take 20) = true := by decide +kernel
set_option maxRecDepth 100000 in
set_option maxHeartbeats 4000000 in
theorem g_lawc_140 : o_all RL code (some .boolean) (decide (x.name = "<init>")) (a_code 324) 140 (((a_code 324).drop 140).take 20) = true := by decide +kernel
set_option maxRecDepth 100000 in
set_option maxHeartbeats 4000000 in
theorem g_lawc_160 : o_all RL code (some .boolean) (decide (x.name = "<init>")) (a_code 324) 160 (((a_code 324).drop 160).take 20) = true := by decide +kernel
set_option maxRecDepth 100000 in
set_option maxHeartbeats 4000000 in
theorem g_lawc_180 : o_all RL code (some .boolean) (decide (x.name = "<init>")) (a_code 324) 180 (((a_code 324).drop 180).take 20) = true := by decide +kernel
set_option maxRecDepth 100000 in
set_option maxHeartbeats 4000000 in
theorem g_lawc_200 : o_all RL code (some .boolean) (decide (x.name = "<init>")) (a_code 324) 200 (((a_code 324).drop 200).take 20) = true := by decide +kernel
set_option maxRecDepth 100000 in
set_option maxHeartbeats 4000000 in
theorem g_lawc_220 : o_all RL code (some .boolean) (decide (x.name = "<init>")) (a_code 324) 220 (((a_code 324).drop 220).take 20) = true := by decide +kernel
set_option maxRecDepth 100000 in
set_option maxHeartbeats 4000000 in
theorem g_lawc_240 : o_all RL code (some .boolean) (decide (x.name = "<init>")) (a_code 324) 240 (((a_code 324).drop 240).take 20) = true := by decide +kernel
set_option maxRecDepth 100000 in
set_option maxHeartbeats 4000000 in
theorem g_lawc_260 : o_all RL code (some .boolean) (decide (x.name = "<init>")) (a_code 324) 260 (((a_code 324).drop 260).take 20) = true := by decide +kernel
set_option maxRecDepth 100000 in
set_option maxHeartbeats 4000000 in
theorem g_lawc_280 : o_all RL code (some .boolean) (decide (x.name = "<init>")) (a_code 324) 280 (((a_code 324).drop 280).take 20) = true := by decide +kernel
set_option maxRecDepth 100000 in
set_option maxHeartbeats 4000000 in
theorem g_lawc_300 : o_all RL code (some .boolean) (decide (x.name = "<init>")) (a_code 324) 300 (((a_code 324).drop 300).take 20) = true := by decide +kernel
set_option maxRecDepth 100000 in
set_option maxHeartbeats 4000000 in
theorem g_lawc_320 : o_all RL code (some .boolean) (decide (x.name = "<init>")) (a_code 324) 320 (((a_code 324).drop 320).take 20) = true := by decide +kernel
set_option maxRecDepth 100000 in
set_option maxHeartbeats 4000000 in
theorem g_lawc_340 : o_all RL code (some .boolean) (decide (x.name = "<init>")) (a_code 324) 340 (((a_code 324).drop 340).take 20) = true := by decide +kernel
set_option maxRecDepth 100000 in
set_option maxHeartbeats 4000000 in
theorem g_lawc_360 : o_all RL code (some .boolean) (decide (x.name = "<init>")) (a_code 324) 360 (((a_code 324).drop 360).take 20) = true := by decide +kernel
set_option maxRecDepth 100000 in
set_option maxHeartbeats 4000000 in
theorem g_lawc_380 : o_all RL code (some .boolean) (decide (x.name = "<init>")) (a_code 324) 380 (((a_code 324).drop 380).take 20) = true := by decide +kernel
