/-! The rows of the law itself, eighty at a time -/
theorem o_all_cat {own : String} {cc : ByteArray} {ret : Option FieldType} {init : Bool} {cd : List AI} : ∀ (n o : Nat) (l : List AI), o_all own cc ret init cd o (l.take n) = true → o_all own cc ret init cd (o + n) (l.drop n) = true → o_all own cc ret init cd o l = true
  | 0, o, l, _, h => by simpa using h
  | n + 1, o, [], _, _ => rfl
  | n + 1, o, e :: t, h1, h2 => by
    simp only [List.take_succ_cons, o_all, Bool.and_eq_true] at h1
    simp only [o_all, Bool.and_eq_true]
    refine ⟨h1.1, o_all_cat n (o + 1) t h1.2 ?_⟩
    rw [show o + 1 + n = o + (n + 1) by omega]
    simpa using h2
set_option maxRecDepth 100000 in
set_option maxHeartbeats 4000000 in
theorem g_lawe : o_all RL code (some .boolean) (decide (x.name = "<init>")) (a_code 324) 1600 ((a_code 324).drop 1600) = true := by decide +kernel
theorem g_lawd_1520 : o_all RL code (some .boolean) (decide (x.name = "<init>")) (a_code 324) 1520 ((a_code 324).drop 1520) = true := o_all_cat 80 1520 _ g_lawc_1520 (by rw [List.drop_drop]; exact g_lawe)
theorem g_lawd_1440 : o_all RL code (some .boolean) (decide (x.name = "<init>")) (a_code 324) 1440 ((a_code 324).drop 1440) = true := o_all_cat 80 1440 _ g_lawc_1440 (by rw [List.drop_drop]; exact g_lawd_1520)
theorem g_lawd_1360 : o_all RL code (some .boolean) (decide (x.name = "<init>")) (a_code 324) 1360 ((a_code 324).drop 1360) = true := o_all_cat 80 1360 _ g_lawc_1360 (by rw [List.drop_drop]; exact g_lawd_1440)
theorem g_lawd_1280 : o_all RL code (some .boolean) (decide (x.name = "<init>")) (a_code 324) 1280 ((a_code 324).drop 1280) = true := o_all_cat 80 1280 _ g_lawc_1280 (by rw [List.drop_drop]; exact g_lawd_1360)
theorem g_lawd_1200 : o_all RL code (some .boolean) (decide (x.name = "<init>")) (a_code 324) 1200 ((a_code 324).drop 1200) = true := o_all_cat 80 1200 _ g_lawc_1200 (by rw [List.drop_drop]; exact g_lawd_1280)
theorem g_lawd_1120 : o_all RL code (some .boolean) (decide (x.name = "<init>")) (a_code 324) 1120 ((a_code 324).drop 1120) = true := o_all_cat 80 1120 _ g_lawc_1120 (by rw [List.drop_drop]; exact g_lawd_1200)
theorem g_lawd_1040 : o_all RL code (some .boolean) (decide (x.name = "<init>")) (a_code 324) 1040 ((a_code 324).drop 1040) = true := o_all_cat 80 1040 _ g_lawc_1040 (by rw [List.drop_drop]; exact g_lawd_1120)
theorem g_lawd_960 : o_all RL code (some .boolean) (decide (x.name = "<init>")) (a_code 324) 960 ((a_code 324).drop 960) = true := o_all_cat 80 960 _ g_lawc_960 (by rw [List.drop_drop]; exact g_lawd_1040)
theorem g_lawd_880 : o_all RL code (some .boolean) (decide (x.name = "<init>")) (a_code 324) 880 ((a_code 324).drop 880) = true := o_all_cat 80 880 _ g_lawc_880 (by rw [List.drop_drop]; exact g_lawd_960)
theorem g_lawd_800 : o_all RL code (some .boolean) (decide (x.name = "<init>")) (a_code 324) 800 ((a_code 324).drop 800) = true := o_all_cat 80 800 _ g_lawc_800 (by rw [List.drop_drop]; exact g_lawd_880)
theorem g_lawd_720 : o_all RL code (some .boolean) (decide (x.name = "<init>")) (a_code 324) 720 ((a_code 324).drop 720) = true := o_all_cat 80 720 _ g_lawc_720 (by rw [List.drop_drop]; exact g_lawd_800)
theorem g_lawd_640 : o_all RL code (some .boolean) (decide (x.name = "<init>")) (a_code 324) 640 ((a_code 324).drop 640) = true := o_all_cat 80 640 _ g_lawc_640 (by rw [List.drop_drop]; exact g_lawd_720)
theorem g_lawd_560 : o_all RL code (some .boolean) (decide (x.name = "<init>")) (a_code 324) 560 ((a_code 324).drop 560) = true := o_all_cat 80 560 _ g_lawc_560 (by rw [List.drop_drop]; exact g_lawd_640)
theorem g_lawd_480 : o_all RL code (some .boolean) (decide (x.name = "<init>")) (a_code 324) 480 ((a_code 324).drop 480) = true := o_all_cat 80 480 _ g_lawc_480 (by rw [List.drop_drop]; exact g_lawd_560)
theorem g_lawd_400 : o_all RL code (some .boolean) (decide (x.name = "<init>")) (a_code 324) 400 ((a_code 324).drop 400) = true := o_all_cat 80 400 _ g_lawc_400 (by rw [List.drop_drop]; exact g_lawd_480)
theorem g_lawd_320 : o_all RL code (some .boolean) (decide (x.name = "<init>")) (a_code 324) 320 ((a_code 324).drop 320) = true := o_all_cat 80 320 _ g_lawc_320 (by rw [List.drop_drop]; exact g_lawd_400)
theorem g_lawd_240 : o_all RL code (some .boolean) (decide (x.name = "<init>")) (a_code 324) 240 ((a_code 324).drop 240) = true := o_all_cat 80 240 _ g_lawc_240 (by rw [List.drop_drop]; exact g_lawd_320)
theorem g_lawd_160 : o_all RL code (some .boolean) (decide (x.name = "<init>")) (a_code 324) 160 ((a_code 324).drop 160) = true := o_all_cat 80 160 _ g_lawc_160 (by rw [List.drop_drop]; exact g_lawd_240)
theorem g_lawd_80 : o_all RL code (some .boolean) (decide (x.name = "<init>")) (a_code 324) 80 ((a_code 324).drop 80) = true := o_all_cat 80 80 _ g_lawc_80 (by rw [List.drop_drop]; exact g_lawd_160)
theorem g_lawd_0 : o_all RL code (some .boolean) (decide (x.name = "<init>")) (a_code 324) 0 ((a_code 324).drop 0) = true := o_all_cat 80 0 _ g_lawc_0 (by rw [List.drop_drop]; exact g_lawd_80)
theorem g_law_ok : g_ok 324 (x, code, 8, some .boolean, RL, []) := ⟨by have h := g_lawd_0; rwa [List.drop_zero] at h, by decide +kernel⟩
