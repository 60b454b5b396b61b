set_option maxRecDepth 100000 in
set_option maxHeartbeats 4000000 in
theorem g_lawc_560 : o_all RL code (some .boolean) (decide (x.name = "<init>")) (a_code 324) 560 (((a_code 324).drop 560).take 80) = true := by decide +kernel
set_option maxRecDepth 100000 in
set_option maxHeartbeats 4000000 in
theorem g_lawc_640 : o_all RL code (some .boolean) (decide (x.name = "<init>")) (a_code 324) 640 (((a_code 324).drop 640).take 80) = true := by decide +kernel
set_option maxRecDepth 100000 in
set_option maxHeartbeats 4000000 in
theorem g_lawc_720 : o_all RL code (some .boolean) (decide (x.name = "<init>")) (a_code 324) 720 (((a_code 324).drop 720).take 80) = true := by decide +kernel
set_option maxRecDepth 100000 in
set_option maxHeartbeats 4000000 in
theorem g_lawc_800 : o_all RL code (some .boolean) (decide (x.name = "<init>")) (a_code 324) 800 (((a_code 324).drop 800).take 80) = true := by decide +kernel
set_option maxRecDepth 100000 in
set_option maxHeartbeats 4000000 in
theorem g_lawc_880 : o_all RL code (some .boolean) (decide (x.name = "<init>")) (a_code 324) 880 (((a_code 324).drop 880).take 80) = true := by decide +kernel
set_option maxRecDepth 100000 in
set_option maxHeartbeats 4000000 in
theorem g_lawc_960 : o_all RL code (some .boolean) (decide (x.name = "<init>")) (a_code 324) 960 (((a_code 324).drop 960).take 80) = true := by decide +kernel
set_option maxRecDepth 100000 in
set_option maxHeartbeats 4000000 in
theorem g_lawc_1040 : o_all RL code (some .boolean) (decide (x.name = "<init>")) (a_code 324) 1040 (((a_code 324).drop 1040).take 80) = true := by decide +kernel
