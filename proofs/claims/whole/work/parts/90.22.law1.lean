set_option maxRecDepth 100000 in
set_option maxHeartbeats 4000000 in
theorem g_lawc_400 : o_all RL code (some .boolean) (decide (x.name = "<init>")) (a_code 324) 400 (((a_code 324).drop 400).take 20) = true := by decide +kernel
set_option maxRecDepth 100000 in
set_option maxHeartbeats 4000000 in
theorem g_lawc_420 : o_all RL code (some .boolean) (decide (x.name = "<init>")) (a_code 324) 420 (((a_code 324).drop 420).take 20) = true := by decide +kernel
set_option maxRecDepth 100000 in
set_option maxHeartbeats 4000000 in
theorem g_lawc_440 : o_all RL code (some .boolean) (decide (x.name = "<init>")) (a_code 324) 440 (((a_code 324).drop 440).take 20) = true := by decide +kernel
set_option maxRecDepth 100000 in
set_option maxHeartbeats 4000000 in
theorem g_lawc_460 : o_all RL code (some .boolean) (decide (x.name = "<init>")) (a_code 324) 460 (((a_code 324).drop 460).take 20) = true := by decide +kernel
set_option maxRecDepth 100000 in
set_option maxHeartbeats 4000000 in
theorem g_lawc_480 : o_all RL code (some .boolean) (decide (x.name = "<init>")) (a_code 324) 480 (((a_code 324).drop 480).take 20) = true := by decide +kernel
set_option maxRecDepth 100000 in
set_option maxHeartbeats 4000000 in
theorem g_lawc_500 : o_all RL code (some .boolean) (decide (x.name = "<init>")) (a_code 324) 500 (((a_code 324).drop 500).take 20) = true := by decide +kernel
set_option maxRecDepth 100000 in
set_option maxHeartbeats 4000000 in
theorem g_lawc_520 : o_all RL code (some .boolean) (decide (x.name = "<init>")) (a_code 324) 520 (((a_code 324).drop 520).take 20) = true := by decide +kernel
set_option maxRecDepth 100000 in
set_option maxHeartbeats 4000000 in
theorem g_lawc_540 : o_all RL code (some .boolean) (decide (x.name = "<init>")) (a_code 324) 540 (((a_code 324).drop 540).take 20) = true := by decide +kernel
set_option maxRecDepth 100000 in
set_option maxHeartbeats 4000000 in
theorem g_lawc_560 : o_all RL code (some .boolean) (decide (x.name = "<init>")) (a_code 324) 560 (((a_code 324).drop 560).take 20) = true := by decide +kernel
set_option maxRecDepth 100000 in
set_option maxHeartbeats 4000000 in
theorem g_lawc_580 : o_all RL code (some .boolean) (decide (x.name = "<init>")) (a_code 324) 580 (((a_code 324).drop 580).take 20) = true := by decide +kernel
set_option maxRecDepth 100000 in
set_option maxHeartbeats 4000000 in
theorem g_lawc_600 : o_all RL code (some .boolean) (decide (x.name = "<init>")) (a_code 324) 600 (((a_code 324).drop 600).take 20) = true := by decide +kernel
set_option maxRecDepth 100000 in
set_option maxHeartbeats 4000000 in
theorem g_lawc_620 : o_all RL code (some .boolean) (decide (x.name = "<init>")) (a_code 324) 620 (((a_code 324).drop 620).take 20) = true := by decide +kernel
set_option maxRecDepth 100000 in
set_option maxHeartbeats 4000000 in
theorem g_lawc_640 : o_all RL code (some .boolean) (decide (x.name = "<init>")) (a_code 324) 640 (((a_code 324).drop 640).take 20) = true := by decide +kernel
set_option maxRecDepth 100000 in
set_option maxHeartbeats 4000000 in
theorem g_lawc_660 : o_all RL code (some .boolean) (decide (x.name = "<init>")) (a_code 324) 660 (((a_code 324).drop 660).take 20) = true := by decide +kernel
set_option maxRecDepth 100000 in
set_option maxHeartbeats 4000000 in
theorem g_lawc_680 : o_all RL code (some .boolean) (decide (x.name = "<init>")) (a_code 324) 680 (((a_code 324).drop 680).take 20) = true := by decide +kernel
set_option maxRecDepth 100000 in
set_option maxHeartbeats 4000000 in
theorem g_lawc_700 : o_all RL code (some .boolean) (decide (x.name = "<init>")) (a_code 324) 700 (((a_code 324).drop 700).take 20) = true := by decide +kernel
set_option maxRecDepth 100000 in
set_option maxHeartbeats 4000000 in
theorem g_lawc_720 : o_all RL code (some .boolean) (decide (x.name = "<init>")) (a_code 324) 720 (((a_code 324).drop 720).take 20) = true := by decide +kernel
set_option maxRecDepth 100000 in
set_option maxHeartbeats 4000000 in
theorem g_lawc_740 : o_all RL code (some .boolean) (decide (x.name = "<init>")) (a_code 324) 740 (((a_code 324).drop 740).take 20) = true := by decide +kernel
set_option maxRecDepth 100000 in
set_option maxHeartbeats 4000000 in
theorem g_lawc_760 : o_all RL code (some .boolean) (decide (x.name = "<init>")) (a_code 324) 760 (((a_code 324).drop 760).take 20) = true := by decide +kernel
set_option maxRecDepth 100000 in
set_option maxHeartbeats 4000000 in
theorem g_lawc_780 : o_all RL code (some .boolean) (decide (x.name = "<init>")) (a_code 324) 780 (((a_code 324).drop 780).take 20) = true := by decide +kernel
