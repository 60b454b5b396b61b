set_option maxRecDepth 100000 in
set_option maxHeartbeats 4000000 in
theorem g_lawc_800 : o_all RL code (some .boolean) (decide (x.name = "<init>")) (a_code 324) 800 (((a_code 324).drop 800).take 20) = true := by decide +kernel
set_option maxRecDepth 100000 in
set_option maxHeartbeats 4000000 in
theorem g_lawc_820 : o_all RL code (some .boolean) (decide (x.name = "<init>")) (a_code 324) 820 (((a_code 324).drop 820).take 20) = true := by decide +kernel
set_option maxRecDepth 100000 in
set_option maxHeartbeats 4000000 in
theorem g_lawc_840 : o_all RL code (some .boolean) (decide (x.name = "<init>")) (a_code 324) 840 (((a_code 324).drop 840).take 20) = true := by decide +kernel
set_option maxRecDepth 100000 in
set_option maxHeartbeats 4000000 in
theorem g_lawc_860 : o_all RL code (some .boolean) (decide (x.name = "<init>")) (a_code 324) 860 (((a_code 324).drop 860).take 20) = true := by decide +kernel
set_option maxRecDepth 100000 in
set_option maxHeartbeats 4000000 in
theorem g_lawc_880 : o_all RL code (some .boolean) (decide (x.name = "<init>")) (a_code 324) 880 (((a_code 324).drop 880).take 20) = true := by decide +kernel
set_option maxRecDepth 100000 in
set_option maxHeartbeats 4000000 in
theorem g_lawc_900 : o_all RL code (some .boolean) (decide (x.name = "<init>")) (a_code 324) 900 (((a_code 324).drop 900).take 20) = true := by decide +kernel
set_option maxRecDepth 100000 in
set_option maxHeartbeats 4000000 in
theorem g_lawc_920 : o_all RL code (some .boolean) (decide (x.name = "<init>")) (a_code 324) 920 (((a_code 324).drop 920).take 20) = true := by decide +kernel
set_option maxRecDepth 100000 in
set_option maxHeartbeats 4000000 in
theorem g_lawc_940 : o_all RL code (some .boolean) (decide (x.name = "<init>")) (a_code 324) 940 (((a_code 324).drop 940).take 20) = true := by decide +kernel
set_option maxRecDepth 100000 in
set_option maxHeartbeats 4000000 in
theorem g_lawc_960 : o_all RL code (some .boolean) (decide (x.name = "<init>")) (a_code 324) 960 (((a_code 324).drop 960).take 20) = true := by decide +kernel
set_option maxRecDepth 100000 in
set_option maxHeartbeats 4000000 in
theorem g_lawc_980 : o_all RL code (some .boolean) (decide (x.name = "<init>")) (a_code 324) 980 (((a_code 324).drop 980).take 20) = true := by decide +kernel
set_option maxRecDepth 100000 in
set_option maxHeartbeats 4000000 in
theorem g_lawc_1000 : o_all RL code (some .boolean) (decide (x.name = "<init>")) (a_code 324) 1000 (((a_code 324).drop 1000).take 20) = true := by decide +kernel
set_option maxRecDepth 100000 in
set_option maxHeartbeats 4000000 in
theorem g_lawc_1020 : o_all RL code (some .boolean) (decide (x.name = "<init>")) (a_code 324) 1020 (((a_code 324).drop 1020).take 20) = true := by decide +kernel
set_option maxRecDepth 100000 in
set_option maxHeartbeats 4000000 in
theorem g_lawc_1040 : o_all RL code (some .boolean) (decide (x.name = "<init>")) (a_code 324) 1040 (((a_code 324).drop 1040).take 20) = true := by decide +kernel
set_option maxRecDepth 100000 in
set_option maxHeartbeats 4000000 in
theorem g_lawc_1060 : o_all RL code (some .boolean) (decide (x.name = "<init>")) (a_code 324) 1060 (((a_code 324).drop 1060).take 20) = true := by decide +kernel
set_option maxRecDepth 100000 in
set_option maxHeartbeats 4000000 in
theorem g_lawc_1080 : o_all RL code (some .boolean) (decide (x.name = "<init>")) (a_code 324) 1080 (((a_code 324).drop 1080).take 20) = true := by decide +kernel
set_option maxRecDepth 100000 in
set_option maxHeartbeats 4000000 in
theorem g_lawc_1100 : o_all RL code (some .boolean) (decide (x.name = "<init>")) (a_code 324) 1100 (((a_code 324).drop 1100).take 20) = true := by decide +kernel
set_option maxRecDepth 100000 in
set_option maxHeartbeats 4000000 in
theorem g_lawc_1120 : o_all RL code (some .boolean) (decide (x.name = "<init>")) (a_code 324) 1120 (((a_code 324).drop 1120).take 20) = true := by decide +kernel
set_option maxRecDepth 100000 in
set_option maxHeartbeats 4000000 in
theorem g_lawc_1140 : o_all RL code (some .boolean) (decide (x.name = "<init>")) (a_code 324) 1140 (((a_code 324).drop 1140).take 20) = true := by decide +kernel
set_option maxRecDepth 100000 in
set_option maxHeartbeats 4000000 in
theorem g_lawc_1160 : o_all RL code (some .boolean) (decide (x.name = "<init>")) (a_code 324) 1160 (((a_code 324).drop 1160).take 20) = true := by decide +kernel
set_option maxRecDepth 100000 in
set_option maxHeartbeats 4000000 in
theorem g_lawc_1180 : o_all RL code (some .boolean) (decide (x.name = "<init>")) (a_code 324) 1180 (((a_code 324).drop 1180).take 20) = true := by decide +kernel
