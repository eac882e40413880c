theorem cwX0_init : Cond.code yX0_init cX0_init 4 none ∈ g_wk := g_wk_of (k := 2) (j := 35) rfl rfl
theorem mkX0_init : g_mck (2, 3, 2, 35, 1, 9, 2, 34, 0, 0) (g_cn 0, yX0_init, cX0_init, 4, none, g_look2 ttX0_init) = true := by decide +kernel
theorem cwX0_go : Cond.code yX0_go cX0_go 4 none ∈ g_wk := g_wk_of (k := 4) (j := 80) rfl rfl
theorem mkX0_go : g_mck (1, 2, 4, 80, 1, 9, 4, 78, 4, 79) (g_cn 0, yX0_go, cX0_go, 4, none, g_look2 ttX0_go) = true := by decide +kernel
theorem cwX0_pass : Cond.code yX0_pass cX0_pass 4 none ∈ g_wk := g_wk_of (k := 4) (j := 84) rfl rfl
theorem mkX0_pass : g_mck (1, 1, 4, 84, 1, 9, 4, 83, 0, 22) (g_cn 0, yX0_pass, cX0_pass, 4, none, g_look2 ttX0_pass) = true := by decide +kernel
theorem cwX0_weaken : Cond.code yX0_weaken cX0_weaken 4 none ∈ g_wk := g_wk_of (k := 4) (j := 88) rfl rfl
theorem mkX0_weaken : g_mck (1, 1, 4, 88, 1, 9, 4, 87, 0, 23) (g_cn 0, yX0_weaken, cX0_weaken, 4, none, g_look2 ttX0_weaken) = true := by decide +kernel
theorem cwX0_breakToys : Cond.code yX0_breakToys cX0_breakToys 3 none ∈ g_wk := g_wk_of (k := 4) (j := 159) rfl rfl
theorem mkX0_breakToys : g_mck (1, 1, 4, 159, 1, 9, 4, 158, 0, 29) (g_cn 0, yX0_breakToys, cX0_breakToys, 3, none, g_look2 ttX0_breakToys) = true := by decide +kernel
theorem cwX0_quarrelAll : Cond.code yX0_quarrelAll cX0_quarrelAll 5 none ∈ g_wk := g_wk_of (k := 4) (j := 163) rfl rfl
theorem mkX0_quarrelAll : g_mck (1, 1, 4, 163, 1, 9, 4, 162, 0, 30) (g_cn 0, yX0_quarrelAll, cX0_quarrelAll, 5, none, g_look2 ttX0_quarrelAll) = true := by decide +kernel
theorem cwX0_recover : Cond.code yX0_recover cX0_recover 3 none ∈ g_wk := g_wk_of (k := 4) (j := 175) rfl rfl
theorem mkX0_recover : g_mck (1, 1, 4, 175, 1, 9, 4, 174, 0, 32) (g_cn 0, yX0_recover, cX0_recover, 3, none, g_look2 ttX0_recover) = true := by decide +kernel
theorem cwX0_sicken : Cond.code yX0_sicken cX0_sicken 4 none ∈ g_wk := g_wk_of (k := 4) (j := 179) rfl rfl
theorem mkX0_sicken : g_mck (1, 3, 4, 179, 1, 9, 4, 178, 0, 33) (g_cn 0, yX0_sicken, cX0_sicken, 4, none, g_look2 ttX0_sicken) = true := by decide +kernel
theorem cwX0_askRules : Cond.code yX0_askRules cX0_askRules 6 none ∈ g_wk := g_wk_of (k := 4) (j := 200) rfl rfl
theorem mkX0_askRules : g_mck (1, 1, 4, 200, 1, 9, 4, 199, 0, 35) (g_cn 0, yX0_askRules, cX0_askRules, 6, none, g_look2 ttX0_askRules) = true := by decide +kernel
theorem cwX1_init : Cond.code yX1_init cX1_init 1 none ∈ g_wk := g_wk_of (k := 1) (j := 194) rfl rfl
theorem mkX1_init : g_mck (2, 0, 1, 194, 1, 7, 1, 193, 0, 0) (g_cn 1, yX1_init, cX1_init, 1, none, g_look2 ttX1_init) = true := by decide +kernel
theorem cwX2_init : Cond.code yX2_init cX2_init 1 none ∈ g_wk := g_wk_of (k := 2) (j := 166) rfl rfl
theorem mkX2_init : g_mck (2, 0, 2, 166, 1, 12, 2, 165, 0, 0) (g_cn 2, yX2_init, cX2_init, 1, none, g_look2 ttX2_init) = true := by decide +kernel
theorem cwX3_init : Cond.code yX3_init cX3_init 2 none ∈ g_wk := g_wk_of (k := 1) (j := 188) rfl rfl
theorem mkX3_init : g_mck (2, 1, 1, 188, 1, 6, 1, 187, 0, 0) (g_cn 3, yX3_init, cX3_init, 2, none, g_look2 ttX3_init) = true := by decide +kernel
theorem cwX3_clauses : Cond.code yX3_clauses cX3_clauses 1 (some .int) ∈ g_wk := g_wk_of (k := 5) (j := 1) rfl rfl
theorem mkX3_clauses : g_mck (1, 0, 5, 1, 1, 6, 4, 239, 5, 0) (g_cn 3, yX3_clauses, cX3_clauses, 1, (some .int), g_look2 ttX3_clauses) = true := by decide +kernel
theorem cwX3_ruleCount : Cond.code yX3_ruleCount cX3_ruleCount 1 (some .int) ∈ g_wk := g_wk_of (k := 5) (j := 5) rfl rfl
theorem mkX3_ruleCount : g_mck (1, 0, 5, 5, 1, 6, 5, 3, 5, 4) (g_cn 3, yX3_ruleCount, cX3_ruleCount, 1, (some .int), g_look2 ttX3_ruleCount) = true := by decide +kernel
theorem cwX3_firstBroken : Cond.code yX3_firstBroken cX3_firstBroken 4 (some .int) ∈ g_wk := g_wk_of (k := 4) (j := 204) rfl rfl
theorem mkX3_firstBroken : g_mck (1, 2, 4, 204, 1, 6, 4, 202, 4, 203) (g_cn 3, yX3_firstBroken, cX3_firstBroken, 4, (some .int), g_look2 ttX3_firstBroken) = true := by decide +kernel
theorem cwX3_lookAtWard : Cond.code yX3_lookAtWard cX3_lookAtWard 6 none ∈ g_wk := g_wk_of (k := 4) (j := 193) rfl rfl
theorem mkX3_lookAtWard : g_mck (1, 2, 4, 193, 1, 6, 4, 192, 0, 34) (g_cn 3, yX3_lookAtWard, cX3_lookAtWard, 6, none, g_look2 ttX3_lookAtWard) = true := by decide +kernel
theorem cwX4_init : Cond.code yX4_init cX4_init 3 none ∈ g_wk := g_wk_of (k := 2) (j := 71) rfl rfl
theorem mkX4_init : g_mck (2, 2, 2, 71, 1, 10, 2, 70, 0, 0) (g_cn 4, yX4_init, cX4_init, 3, none, g_look2 ttX4_init) = true := by decide +kernel
theorem cwX5_init : Cond.code yX5_init cX5_init 2 none ∈ g_wk := g_wk_of (k := 2) (j := 3) rfl rfl
theorem mkX5_init : g_mck (2, 1, 2, 3, 1, 8, 2, 2, 0, 0) (g_cn 5, yX5_init, cX5_init, 2, none, g_look2 ttX5_init) = true := by decide +kernel
theorem cwX6_init : Cond.code yX6_init cX6_init 1 none ∈ g_wk := g_wk_of (k := 1) (j := 172) rfl rfl
theorem mkX6_init : g_mck (2, 0, 1, 172, 1, 5, 1, 171, 0, 0) (g_cn 6, yX6_init, cX6_init, 1, none, g_look2 ttX6_init) = true := by decide +kernel
theorem cwX7_init : Cond.code yX7_init cX7_init 1 none ∈ g_wk := g_wk_of (k := 1) (j := 35) rfl rfl
theorem mkX7_init : g_mck (2, 0, 1, 35, 1, 2, 1, 34, 0, 0) (g_cn 7, yX7_init, cX7_init, 1, none, g_look2 ttX7_init) = true := by decide +kernel
theorem cwX7_hasGust : Cond.code yX7_hasGust cX7_hasGust 2 (some .boolean) ∈ g_wk := g_wk_of (k := 3) (j := 7) rfl rfl
theorem mkX7_hasGust : g_mck (1, 1, 3, 7, 1, 2, 3, 5, 3, 6) (g_cn 7, yX7_hasGust, cX7_hasGust, 2, (some .boolean), g_look2 ttX7_hasGust) = true := by decide +kernel
theorem cwX7_hasNurse : Cond.code yX7_hasNurse cX7_hasNurse 2 (some .boolean) ∈ g_wk := g_wk_of (k := 4) (j := 135) rfl rfl
theorem mkX7_hasNurse : g_mck (1, 1, 4, 135, 1, 2, 4, 133, 4, 134) (g_cn 7, yX7_hasNurse, cX7_hasNurse, 2, (some .boolean), g_look2 ttX7_hasNurse) = true := by decide +kernel
theorem cwX7_works : Cond.code yX7_works cX7_works 2 (some .boolean) ∈ g_wk := g_wk_of (k := 4) (j := 131) rfl rfl
theorem mkX7_works : g_mck (1, 1, 4, 131, 1, 2, 4, 129, 4, 130) (g_cn 7, yX7_works, cX7_works, 2, (some .boolean), g_look2 ttX7_works) = true := by decide +kernel
theorem cwX7_inWard : Cond.code yX7_inWard cX7_inWard 4 (some .int) ∈ g_wk := g_wk_of (k := 3) (j := 19) rfl rfl
theorem mkX7_inWard : g_mck (1, 1, 3, 19, 1, 2, 3, 17, 3, 18) (g_cn 7, yX7_inWard, cX7_inWard, 4, (some .int), g_look2 ttX7_inWard) = true := by decide +kernel
theorem cwX7_copy : Cond.code yX7_copy cX7_copy 2 none ∈ g_wk := g_wk_of (k := 4) (j := 212) rfl rfl
theorem mkX7_copy : g_mck (1, 1, 4, 212, 1, 2, 4, 210, 4, 211) (g_cn 7, yX7_copy, cX7_copy, 2, none, g_look2 ttX7_copy) = true := by decide +kernel
theorem cwX8_init : Cond.code yX8_init cX8_init 1 none ∈ g_wk := g_wk_of (k := 1) (j := 158) rfl rfl
theorem mkX8_init : g_mck (2, 0, 1, 158, 1, 4, 1, 157, 0, 0) (g_cn 8, yX8_init, cX8_init, 1, none, g_look2 ttX8_init) = true := by decide +kernel
theorem cwX8_takes : Cond.code yX8_takes cX8_takes 2 (some .boolean) ∈ g_wk := g_wk_of (k := 3) (j := 67) rfl rfl
theorem mkX8_takes : g_mck (1, 1, 3, 67, 1, 4, 3, 65, 3, 66) (g_cn 8, yX8_takes, cX8_takes, 2, (some .boolean), g_look2 ttX8_takes) = true := by decide +kernel
theorem cwX8_append : Cond.code yX8_append cX8_append 3 none ∈ g_wk := g_wk_of (k := 3) (j := 71) rfl rfl
theorem mkX8_append : g_mck (1, 1, 3, 71, 1, 4, 3, 69, 3, 70) (g_cn 8, yX8_append, cX8_append, 3, none, g_look2 ttX8_append) = true := by decide +kernel
theorem cwX8_empty : Cond.code yX8_empty cX8_empty 1 none ∈ g_wk := g_wk_of (k := 4) (j := 22) rfl rfl
theorem mkX8_empty : g_mck (1, 0, 4, 22, 1, 4, 4, 20, 4, 21) (g_cn 8, yX8_empty, cX8_empty, 1, none, g_look2 ttX8_empty) = true := by decide +kernel
theorem cwX9_init : Cond.code yX9_init cX9_init 1 none ∈ g_wk := g_wk_of (k := 1) (j := 128) rfl rfl
theorem mkX9_init : g_mck (2, 0, 1, 128, 1, 3, 1, 127, 0, 0) (g_cn 9, yX9_init, cX9_init, 1, none, g_look2 ttX9_init) = true := by decide +kernel
theorem cwX9_lessonAt : Cond.code yX9_lessonAt cX9_lessonAt 2 (some .int) ∈ g_wk := g_wk_of (k := 4) (j := 123) rfl rfl
theorem mkX9_lessonAt : g_mck (1, 1, 4, 123, 1, 3, 4, 121, 4, 122) (g_cn 9, yX9_lessonAt, cX9_lessonAt, 2, (some .int), g_look2 ttX9_lessonAt) = true := by decide +kernel
theorem cwX9_placeAfter : Cond.code yX9_placeAfter cX9_placeAfter 2 (some .int) ∈ g_wk := g_wk_of (k := 4) (j := 127) rfl rfl
theorem mkX9_placeAfter : g_mck (1, 1, 4, 127, 1, 3, 4, 125, 4, 126) (g_cn 9, yX9_placeAfter, cX9_placeAfter, 2, (some .int), g_look2 ttX9_placeAfter) = true := by decide +kernel
theorem cwX10_init : Cond.code yX10_init cX10_init 1 none ∈ g_wk := g_wk_of (k := 2) (j := 121) rfl rfl
theorem mkX10_init : g_mck (2, 0, 2, 121, 1, 11, 2, 120, 0, 0) (g_cn 10, yX10_init, cX10_init, 1, none, g_look2 ttX10_init) = true := by decide +kernel
theorem cwX11_init : Cond.code yX11_init cX11_init 5 none ∈ g_wk := g_wk_of (k := 1) (j := 27) rfl rfl
theorem mkX11_init : g_mck (2, 0, 1, 27, 1, 1, 1, 26, 0, 0) (g_cn 11, yX11_init, cX11_init, 5, none, g_look2 ttX11_init) = true := by decide +kernel
theorem cwX11_gust : Cond.code yX11_gust cX11_gust 7 (some .boolean) ∈ g_wk := g_wk_of (k := 2) (j := 236) rfl rfl
theorem mkX11_gust : g_mck (1, 5, 2, 236, 1, 1, 2, 234, 2, 235) (g_cn 11, yX11_gust, cX11_gust, 7, (some .boolean), g_look2 ttX11_gust) = true := by decide +kernel
theorem cwX11_name : Cond.code yX11_name cX11_name 3 (some .boolean) ∈ g_wk := g_wk_of (k := 3) (j := 3) rfl rfl
theorem mkX11_name : g_mck (1, 2, 3, 3, 1, 1, 3, 1, 3, 2) (g_cn 11, yX11_name, cX11_name, 3, (some .boolean), g_look2 ttX11_name) = true := by decide +kernel
theorem cwX11_moves : Cond.code yX11_moves cX11_moves 4 (some .boolean) ∈ g_wk := g_wk_of (k := 3) (j := 11) rfl rfl
theorem mkX11_moves : g_mck (1, 2, 3, 11, 1, 1, 3, 9, 3, 10) (g_cn 11, yX11_moves, cX11_moves, 4, (some .boolean), g_look2 ttX11_moves) = true := by decide +kernel
theorem cwX11_habit : Cond.code yX11_habit cX11_habit 5 (some .boolean) ∈ g_wk := g_wk_of (k := 3) (j := 30) rfl rfl
theorem mkX11_habit : g_mck (1, 3, 3, 30, 1, 1, 3, 28, 3, 29) (g_cn 11, yX11_habit, cX11_habit, 5, (some .boolean), g_look2 ttX11_habit) = true := by decide +kernel
theorem cwX11_ward : Cond.code yX11_ward cX11_ward 7 (some .boolean) ∈ g_wk := g_wk_of (k := 3) (j := 34) rfl rfl
theorem mkX11_ward : g_mck (1, 4, 3, 34, 1, 1, 3, 32, 3, 33) (g_cn 11, yX11_ward, cX11_ward, 7, (some .boolean), g_look2 ttX11_ward) = true := by decide +kernel
theorem cwX11_nurse : Cond.code yX11_nurse cX11_nurse 3 (some .boolean) ∈ g_wk := g_wk_of (k := 3) (j := 38) rfl rfl
theorem mkX11_nurse : g_mck (1, 2, 3, 38, 1, 1, 3, 36, 3, 37) (g_cn 11, yX11_nurse, cX11_nurse, 3, (some .boolean), g_look2 ttX11_nurse) = true := by decide +kernel
theorem cwX11_needs : Cond.code yX11_needs cX11_needs 3 (some .boolean) ∈ g_wk := g_wk_of (k := 3) (j := 42) rfl rfl
theorem mkX11_needs : g_mck (1, 2, 3, 42, 1, 1, 3, 40, 3, 41) (g_cn 11, yX11_needs, cX11_needs, 3, (some .boolean), g_look2 ttX11_needs) = true := by decide +kernel
theorem cwX11_wind : Cond.code yX11_wind cX11_wind 4 (some .boolean) ∈ g_wk := g_wk_of (k := 3) (j := 46) rfl rfl
theorem mkX11_wind : g_mck (1, 3, 3, 46, 1, 1, 3, 44, 3, 45) (g_cn 11, yX11_wind, cX11_wind, 4, (some .boolean), g_look2 ttX11_wind) = true := by decide +kernel
theorem cwX11_home : Cond.code yX11_home cX11_home 3 (some .boolean) ∈ g_wk := g_wk_of (k := 3) (j := 50) rfl rfl
theorem mkX11_home : g_mck (1, 2, 3, 50, 1, 1, 3, 48, 3, 49) (g_cn 11, yX11_home, cX11_home, 3, (some .boolean), g_look2 ttX11_home) = true := by decide +kernel
theorem cwX11_house : Cond.code yX11_house cX11_house 4 (some .boolean) ∈ g_wk := g_wk_of (k := 3) (j := 54) rfl rfl
theorem mkX11_house : g_mck (1, 3, 3, 54, 1, 1, 3, 52, 3, 53) (g_cn 11, yX11_house, cX11_house, 4, (some .boolean), g_look2 ttX11_house) = true := by decide +kernel
theorem cwX11_seed : Cond.code yX11_seed cX11_seed 2 (some .boolean) ∈ g_wk := g_wk_of (k := 3) (j := 58) rfl rfl
theorem mkX11_seed : g_mck (1, 1, 3, 58, 1, 1, 3, 56, 3, 57) (g_cn 11, yX11_seed, cX11_seed, 2, (some .boolean), g_look2 ttX11_seed) = true := by decide +kernel
theorem cwX11_feed : Cond.code yX11_feed cX11_feed 6 (some .int) ∈ g_wk := g_wk_of (k := 3) (j := 63) rfl rfl
theorem mkX11_feed : g_mck (1, 5, 3, 63, 1, 1, 3, 61, 3, 62) (g_cn 11, yX11_feed, cX11_feed, 6, (some .int), g_look2 ttX11_feed) = true := by decide +kernel
theorem cwX11_law : Cond.code yX11_law cX11_law 3 (some .int) ∈ g_wk := g_wk_of (k := 3) (j := 75) rfl rfl
theorem mkX11_law : g_mck (1, 1, 3, 75, 1, 1, 3, 73, 3, 74) (g_cn 11, yX11_law, cX11_law, 3, (some .int), g_look2 ttX11_law) = true := by decide +kernel
theorem cwX11_rules : Cond.code yX11_rules cX11_rules 3 (some .int) ∈ g_wk := g_wk_of (k := 4) (j := 31) rfl rfl
theorem mkX11_rules : g_mck (1, 1, 4, 31, 1, 1, 4, 29, 4, 30) (g_cn 11, yX11_rules, cX11_rules, 3, (some .int), g_look2 ttX11_rules) = true := by decide +kernel
theorem cwX11_timetable : Cond.code yX11_timetable cX11_timetable 5 (some .int) ∈ g_wk := g_wk_of (k := 4) (j := 39) rfl rfl
theorem mkX11_timetable : g_mck (1, 2, 4, 39, 1, 1, 4, 37, 4, 38) (g_cn 11, yX11_timetable, cX11_timetable, 5, (some .int), g_look2 ttX11_timetable) = true := by decide +kernel
theorem cwX11_months : Cond.code yX11_months cX11_months 2 (some .int) ∈ g_wk := g_wk_of (k := 4) (j := 76) rfl rfl
theorem mkX11_months : g_mck (1, 1, 4, 76, 1, 1, 4, 74, 4, 75) (g_cn 11, yX11_months, cX11_months, 2, (some .int), g_look2 ttX11_months) = true := by decide +kernel
theorem cwX11_tried : Cond.code yX11_tried cX11_tried 3 (some .int) ∈ g_wk := g_wk_of (k := 4) (j := 208) rfl rfl
theorem mkX11_tried : g_mck (1, 2, 4, 208, 1, 1, 4, 206, 4, 207) (g_cn 11, yX11_tried, cX11_tried, 3, (some .int), g_look2 ttX11_tried) = true := by decide +kernel
theorem cwX11_gustIs : Cond.code yX11_gustIs cX11_gustIs 3 (some .int) ∈ g_wk := g_wk_of (k := 4) (j := 217) rfl rfl
theorem mkX11_gustIs : g_mck (1, 2, 4, 217, 1, 1, 4, 215, 4, 216) (g_cn 11, yX11_gustIs, cX11_gustIs, 3, (some .int), g_look2 ttX11_gustIs) = true := by decide +kernel
theorem cwX11_wardIs : Cond.code yX11_wardIs cX11_wardIs 4 (some .int) ∈ g_wk := g_wk_of (k := 4) (j := 221) rfl rfl
theorem mkX11_wardIs : g_mck (1, 2, 4, 221, 1, 1, 4, 219, 4, 220) (g_cn 11, yX11_wardIs, cX11_wardIs, 4, (some .int), g_look2 ttX11_wardIs) = true := by decide +kernel
theorem cwX11_nurseIs : Cond.code yX11_nurseIs cX11_nurseIs 3 (some .int) ∈ g_wk := g_wk_of (k := 4) (j := 227) rfl rfl
theorem mkX11_nurseIs : g_mck (1, 2, 4, 227, 1, 1, 4, 225, 4, 226) (g_cn 11, yX11_nurseIs, cX11_nurseIs, 3, (some .int), g_look2 ttX11_nurseIs) = true := by decide +kernel
theorem cwX11_quarrel : Cond.code yX11_quarrel cX11_quarrel 3 (some .int) ∈ g_wk := g_wk_of (k := 4) (j := 232) rfl rfl
theorem mkX11_quarrel : g_mck (1, 2, 4, 232, 1, 1, 4, 230, 4, 231) (g_cn 11, yX11_quarrel, cX11_quarrel, 3, (some .int), g_look2 ttX11_quarrel) = true := by decide +kernel
theorem cwX11_count : Cond.code yX11_count cX11_count 2 (some .int) ∈ g_wk := g_wk_of (k := 4) (j := 237) rfl rfl
theorem mkX11_count : g_mck (1, 1, 4, 237, 1, 1, 4, 235, 4, 236) (g_cn 11, yX11_count, cX11_count, 2, (some .int), g_look2 ttX11_count) = true := by decide +kernel
theorem cwX11_added : Cond.code yX11_added cX11_added 6 (some .int) ∈ g_wk := g_wk_of (k := 5) (j := 9) rfl rfl
theorem mkX11_added : g_mck (1, 2, 5, 9, 1, 1, 5, 7, 5, 8) (g_cn 11, yX11_added, cX11_added, 6, (some .int), g_look2 ttX11_added) = true := by decide +kernel
theorem cwX11_housed : Cond.code yX11_housed cX11_housed 6 (some .int) ∈ g_wk := g_wk_of (k := 5) (j := 16) rfl rfl
theorem mkX11_housed : g_mck (1, 3, 5, 16, 1, 1, 5, 14, 5, 15) (g_cn 11, yX11_housed, cX11_housed, 6, (some .int), g_look2 ttX11_housed) = true := by decide +kernel
theorem cwX11_leaving : Cond.code yX11_leaving cX11_leaving 3 (some .int) ∈ g_wk := g_wk_of (k := 5) (j := 56) rfl rfl
theorem mkX11_leaving : g_mck (1, 2, 5, 56, 1, 1, 5, 54, 5, 55) (g_cn 11, yX11_leaving, cX11_leaving, 3, (some .int), g_look2 ttX11_leaving) = true := by decide +kernel
theorem cwX11_letGo : Cond.code yX11_letGo cX11_letGo 4 (some .int) ∈ g_wk := g_wk_of (k := 5) (j := 89) rfl rfl
theorem mkX11_letGo : g_mck (1, 1, 5, 89, 1, 1, 5, 87, 5, 88) (g_cn 11, yX11_letGo, cX11_letGo, 4, (some .int), g_look2 ttX11_letGo) = true := by decide +kernel
theorem cwX11_from : Cond.code yX11_from cX11_from 5 (some .int) ∈ g_wk := g_wk_of (k := 5) (j := 93) rfl rfl
theorem mkX11_from : g_mck (1, 3, 5, 93, 1, 1, 5, 91, 5, 92) (g_cn 11, yX11_from, cX11_from, 5, (some .int), g_look2 ttX11_from) = true := by decide +kernel
theorem cwX11_taught : Cond.code yX11_taught cX11_taught 5 (some .int) ∈ g_wk := g_wk_of (k := 5) (j := 110) rfl rfl
theorem mkX11_taught : g_mck (1, 3, 5, 110, 1, 1, 5, 108, 5, 109) (g_cn 11, yX11_taught, cX11_taught, 5, (some .int), g_look2 ttX11_taught) = true := by decide +kernel
theorem cwX11_placed : Cond.code yX11_placed cX11_placed 3 (some .int) ∈ g_wk := g_wk_of (k := 5) (j := 128) rfl rfl
theorem mkX11_placed : g_mck (1, 2, 5, 128, 1, 1, 5, 126, 5, 127) (g_cn 11, yX11_placed, cX11_placed, 3, (some .int), g_look2 ttX11_placed) = true := by decide +kernel
theorem cwX11_fair : Cond.code yX11_fair cX11_fair 3 (some .int) ∈ g_wk := g_wk_of (k := 5) (j := 155) rfl rfl
theorem mkX11_fair : g_mck (1, 1, 5, 155, 1, 1, 5, 153, 5, 154) (g_cn 11, yX11_fair, cX11_fair, 3, (some .int), g_look2 ttX11_fair) = true := by decide +kernel
theorem cwX11_escaped : Cond.code yX11_escaped cX11_escaped 7 (some .int) ∈ g_wk := g_wk_of (k := 5) (j := 169) rfl rfl
theorem mkX11_escaped : g_mck (1, 4, 5, 169, 1, 1, 5, 167, 5, 168) (g_cn 11, yX11_escaped, cX11_escaped, 7, (some .int), g_look2 ttX11_escaped) = true := by decide +kernel
theorem cwX11_nursed : Cond.code yX11_nursed cX11_nursed 5 (some .int) ∈ g_wk := g_wk_of (k := 5) (j := 190) rfl rfl
theorem mkX11_nursed : g_mck (1, 3, 5, 190, 1, 1, 5, 188, 5, 189) (g_cn 11, yX11_nursed, cX11_nursed, 5, (some .int), g_look2 ttX11_nursed) = true := by decide +kernel
theorem cwX11_round : Cond.code yX11_round cX11_round 4 (some .int) ∈ g_wk := g_wk_of (k := 5) (j := 203) rfl rfl
theorem mkX11_round : g_mck (1, 2, 5, 203, 1, 1, 5, 201, 5, 202) (g_cn 11, yX11_round, cX11_round, 4, (some .int), g_look2 ttX11_round) = true := by decide +kernel
theorem cwX11_keep : Cond.code yX11_keep cX11_keep 1 (some .int) ∈ g_wk := g_wk_of (k := 5) (j := 227) rfl rfl
theorem mkX11_keep : g_mck (1, 0, 5, 227, 1, 1, 5, 225, 5, 226) (g_cn 11, yX11_keep, cX11_keep, 1, (some .int), g_look2 ttX11_keep) = true := by decide +kernel
theorem cwX11_undo : Cond.code yX11_undo cX11_undo 3 (some .boolean) ∈ g_wk := g_wk_of (k := 5) (j := 231) rfl rfl
theorem mkX11_undo : g_mck (1, 0, 5, 231, 1, 1, 5, 229, 5, 230) (g_cn 11, yX11_undo, cX11_undo, 3, (some .boolean), g_look2 ttX11_undo) = true := by decide +kernel
theorem cwX11_check : Cond.code yX11_check cX11_check 5 (some .int) ∈ g_wk := g_wk_of (k := 5) (j := 235) rfl rfl
theorem mkX11_check : g_mck (1, 1, 5, 235, 1, 1, 5, 233, 5, 234) (g_cn 11, yX11_check, cX11_check, 5, (some .int), g_look2 ttX11_check) = true := by decide +kernel
theorem cwX11_within : Cond.code yX11_within cX11_within 2 (some .boolean) ∈ g_wk := g_wk_of (k := 2) (j := 239) rfl rfl
theorem mkX11_within : g_mck (0, 2, 2, 239, 1, 1, 2, 238, 0, 0) (g_cn 11, yX11_within, cX11_within, 2, (some .boolean), g_look2 ttX11_within) = true := by decide +kernel
theorem cwX11_isIn : Cond.code yX11_isIn cX11_isIn 2 (some .boolean) ∈ g_wk := g_wk_of (k := 4) (j := 147) rfl rfl
theorem mkX11_isIn : g_mck (0, 2, 4, 147, 1, 1, 4, 146, 0, 0) (g_cn 11, yX11_isIn, cX11_isIn, 2, (some .boolean), g_look2 ttX11_isIn) = true := by decide +kernel
theorem cwX11_chosen : Cond.code yX11_chosen cX11_chosen 5 (some .boolean) ∈ g_wk := g_wk_of (k := 5) (j := 20) rfl rfl
theorem mkX11_chosen : g_mck (1, 3, 5, 20, 1, 1, 5, 19, 0, 36) (g_cn 11, yX11_chosen, cX11_chosen, 5, (some .boolean), g_look2 ttX11_chosen) = true := by decide +kernel
theorem cwX11_wardAt : Cond.code yX11_wardAt cX11_wardAt 2 (some (.object "GustHome$Ward")) ∈ g_wk := g_wk_of (k := 3) (j := 15) rfl rfl
theorem mkX11_wardAt : g_mck (1, 1, 3, 15, 1, 1, 3, 14, 0, 0) (g_cn 11, yX11_wardAt, cX11_wardAt, 2, (some (.object "GustHome$Ward")), g_look2 ttX11_wardAt) = true := by decide +kernel
theorem cwX12_init : Cond.code yX12_init cX12_init 2 none ∈ g_wk := g_wk_of (k := 6) (j := 0) rfl rfl
theorem mkX12_init : g_mck (2, 0, 6, 0, 1, 13, 5, 239, 0, 0) (g_cn 12, yX12_init, cX12_init, 2, none, g_look2 ttX12_init) = true := by decide +kernel
theorem cwX12_lies : Cond.code yX12_lies cX12_lies 6 (some .boolean) ∈ g_wk := g_wk_of (k := 7) (j := 136) rfl rfl
theorem mkX12_lies : g_mck (0, 3, 7, 136, 1, 13, 7, 135, 0, 0) (g_cn 12, yX12_lies, cX12_lies, 6, (some .boolean), g_look2 ttX12_lies) = true := by decide +kernel
theorem cwX12_has : Cond.code yX12_has cX12_has 2 (some .boolean) ∈ g_wk := g_wk_of (k := 8) (j := 58) rfl rfl
theorem mkX12_has : g_mck (0, 2, 8, 58, 1, 13, 8, 57, 0, 0) (g_cn 12, yX12_has, cX12_has, 2, (some .boolean), g_look2 ttX12_has) = true := by decide +kernel
theorem cwX12_sizeOf : Cond.code yX12_sizeOf cX12_sizeOf 3 (some .int) ∈ g_wk := g_wk_of (k := 8) (j := 101) rfl rfl
theorem mkX12_sizeOf : g_mck (0, 1, 8, 101, 1, 13, 8, 100, 0, 0) (g_cn 12, yX12_sizeOf, cX12_sizeOf, 3, (some .int), g_look2 ttX12_sizeOf) = true := by decide +kernel
theorem cwX12_push : Cond.code yX12_push cX12_push 3 none ∈ g_wk := g_wk_of (k := 7) (j := 128) rfl rfl
theorem mkX12_push : g_mck (1, 1, 7, 128, 1, 13, 7, 127, 0, 60) (g_cn 12, yX12_push, cX12_push, 3, none, g_look2 ttX12_push) = true := by decide +kernel
theorem cwX12_feed : Cond.code yX12_feed cX12_feed 6 (some .int) ∈ g_wk := g_wk_of (k := 7) (j := 124) rfl rfl
theorem mkX12_feed : g_mck (1, 5, 7, 124, 1, 13, 7, 122, 7, 123) (g_cn 12, yX12_feed, cX12_feed, 6, (some .int), g_look2 ttX12_feed) = true := by decide +kernel
theorem cwX12_law : Cond.code yX12_law cX12_law 3 (some .int) ∈ g_wk := g_wk_of (k := 7) (j := 132) rfl rfl
theorem mkX12_law : g_mck (1, 1, 7, 132, 1, 13, 7, 130, 7, 131) (g_cn 12, yX12_law, cX12_law, 3, (some .int), g_look2 ttX12_law) = true := by decide +kernel
theorem cwX12_rules : Cond.code yX12_rules cX12_rules 3 (some .int) ∈ g_wk := g_wk_of (k := 8) (j := 1) rfl rfl
theorem mkX12_rules : g_mck (1, 1, 8, 1, 1, 13, 7, 239, 8, 0) (g_cn 12, yX12_rules, cX12_rules, 3, (some .int), g_look2 ttX12_rules) = true := by decide +kernel
theorem cwX12_isTold : Cond.code yX12_isTold cX12_isTold 2 (some .boolean) ∈ g_wk := g_wk_of (k := 8) (j := 20) rfl rfl
theorem mkX12_isTold : g_mck (1, 1, 8, 20, 1, 13, 8, 19, 0, 82) (g_cn 12, yX12_isTold, cX12_isTold, 2, (some .boolean), g_look2 ttX12_isTold) = true := by decide +kernel
theorem cwX12_isWard : Cond.code yX12_isWard cX12_isWard 1 (some .boolean) ∈ g_wk := g_wk_of (k := 8) (j := 11) rfl rfl
theorem mkX12_isWard : g_mck (0, 1, 8, 11, 1, 13, 8, 10, 0, 0) (g_cn 12, yX12_isWard, cX12_isWard, 1, (some .boolean), g_look2 ttX12_isWard) = true := by decide +kernel
theorem cwX12_isThere : Cond.code yX12_isThere cX12_isThere 2 (some .boolean) ∈ g_wk := g_wk_of (k := 8) (j := 139) rfl rfl
theorem mkX12_isThere : g_mck (1, 1, 8, 139, 1, 13, 8, 138, 0, 99) (g_cn 12, yX12_isThere, cX12_isThere, 2, (some .boolean), g_look2 ttX12_isThere) = true := by decide +kernel
theorem cwX12_areHabits : Cond.code yX12_areHabits cX12_areHabits 1 (some .boolean) ∈ g_wk := g_wk_of (k := 8) (j := 54) rfl rfl
theorem mkX12_areHabits : g_mck (0, 1, 8, 54, 1, 13, 8, 53, 0, 0) (g_cn 12, yX12_areHabits, cX12_areHabits, 1, (some .boolean), g_look2 ttX12_areHabits) = true := by decide +kernel
theorem cwX12_isIn : Cond.code yX12_isIn cX12_isIn 3 (some .boolean) ∈ g_wk := g_wk_of (k := 8) (j := 33) rfl rfl
theorem mkX12_isIn : g_mck (1, 2, 8, 33, 1, 13, 8, 32, 0, 84) (g_cn 12, yX12_isIn, cX12_isIn, 3, (some .boolean), g_look2 ttX12_isIn) = true := by decide +kernel
theorem cwX12_gust : Cond.code yX12_gust cX12_gust 6 (some .boolean) ∈ g_wk := g_wk_of (k := 8) (j := 5) rfl rfl
theorem mkX12_gust : g_mck (1, 5, 8, 5, 1, 13, 8, 3, 8, 4) (g_cn 12, yX12_gust, cX12_gust, 6, (some .boolean), g_look2 ttX12_gust) = true := by decide +kernel
theorem cwX12_name : Cond.code yX12_name cX12_name 3 (some .boolean) ∈ g_wk := g_wk_of (k := 8) (j := 16) rfl rfl
theorem mkX12_name : g_mck (1, 2, 8, 16, 1, 13, 8, 14, 8, 15) (g_cn 12, yX12_name, cX12_name, 3, (some .boolean), g_look2 ttX12_name) = true := by decide +kernel
theorem cwX12_moves : Cond.code yX12_moves cX12_moves 3 (some .boolean) ∈ g_wk := g_wk_of (k := 8) (j := 25) rfl rfl
theorem mkX12_moves : g_mck (1, 2, 8, 25, 1, 13, 8, 23, 8, 24) (g_cn 12, yX12_moves, cX12_moves, 3, (some .boolean), g_look2 ttX12_moves) = true := by decide +kernel
theorem cwX12_habit : Cond.code yX12_habit cX12_habit 4 (some .boolean) ∈ g_wk := g_wk_of (k := 8) (j := 37) rfl rfl
theorem mkX12_habit : g_mck (1, 3, 8, 37, 1, 13, 8, 35, 8, 36) (g_cn 12, yX12_habit, cX12_habit, 4, (some .boolean), g_look2 ttX12_habit) = true := by decide +kernel
theorem cwX12_ward : Cond.code yX12_ward cX12_ward 5 (some .boolean) ∈ g_wk := g_wk_of (k := 8) (j := 41) rfl rfl
theorem mkX12_ward : g_mck (1, 4, 8, 41, 1, 13, 8, 39, 8, 40) (g_cn 12, yX12_ward, cX12_ward, 5, (some .boolean), g_look2 ttX12_ward) = true := by decide +kernel
theorem cwX12_nurse : Cond.code yX12_nurse cX12_nurse 3 (some .boolean) ∈ g_wk := g_wk_of (k := 8) (j := 47) rfl rfl
theorem mkX12_nurse : g_mck (1, 2, 8, 47, 1, 13, 8, 45, 8, 46) (g_cn 12, yX12_nurse, cX12_nurse, 3, (some .boolean), g_look2 ttX12_nurse) = true := by decide +kernel
theorem cwX12_needs : Cond.code yX12_needs cX12_needs 3 (some .boolean) ∈ g_wk := g_wk_of (k := 8) (j := 51) rfl rfl
theorem mkX12_needs : g_mck (1, 2, 8, 51, 1, 13, 8, 49, 8, 50) (g_cn 12, yX12_needs, cX12_needs, 3, (some .boolean), g_look2 ttX12_needs) = true := by decide +kernel
theorem cwX12_timetable : Cond.code yX12_timetable cX12_timetable 4 (some .int) ∈ g_wk := g_wk_of (k := 8) (j := 62) rfl rfl
theorem mkX12_timetable : g_mck (1, 2, 8, 62, 1, 13, 8, 60, 8, 61) (g_cn 12, yX12_timetable, cX12_timetable, 4, (some .int), g_look2 ttX12_timetable) = true := by decide +kernel
theorem cwX12_lessonOf : Cond.code yX12_lessonOf cX12_lessonOf 2 (some .int) ∈ g_wk := g_wk_of (k := 8) (j := 151) rfl rfl
theorem mkX12_lessonOf : g_mck (1, 1, 8, 151, 1, 13, 8, 150, 0, 102) (g_cn 12, yX12_lessonOf, cX12_lessonOf, 2, (some .int), g_look2 ttX12_lessonOf) = true := by decide +kernel
theorem cwX12_weakens : Cond.code yX12_weakens cX12_weakens 3 none ∈ g_wk := g_wk_of (k := 8) (j := 90) rfl rfl
theorem mkX12_weakens : g_mck (1, 0, 8, 90, 1, 13, 8, 89, 0, 89) (g_cn 12, yX12_weakens, cX12_weakens, 3, none, g_look2 ttX12_weakens) = true := by decide +kernel
theorem cwX12_isWell : Cond.code yX12_isWell cX12_isWell 2 (some .boolean) ∈ g_wk := g_wk_of (k := 8) (j := 135) rfl rfl
theorem mkX12_isWell : g_mck (1, 1, 8, 135, 1, 13, 8, 134, 0, 98) (g_cn 12, yX12_isWell, cX12_isWell, 2, (some .boolean), g_look2 ttX12_isWell) = true := by decide +kernel
theorem cwX12_wardsGo : Cond.code yX12_wardsGo cX12_wardsGo 2 none ∈ g_wk := g_wk_of (k := 8) (j := 131) rfl rfl
theorem mkX12_wardsGo : g_mck (1, 0, 8, 131, 1, 13, 8, 130, 0, 97) (g_cn 12, yX12_wardsGo, cX12_wardsGo, 2, none, g_look2 ttX12_wardsGo) = true := by decide +kernel
theorem cwX12_breaks : Cond.code yX12_breaks cX12_breaks 3 none ∈ g_wk := g_wk_of (k := 8) (j := 159) rfl rfl
theorem mkX12_breaks : g_mck (1, 0, 8, 159, 1, 13, 8, 158, 0, 104) (g_cn 12, yX12_breaks, cX12_breaks, 3, none, g_look2 ttX12_breaks) = true := by decide +kernel
theorem cwX12_whistle : Cond.code yX12_whistle cX12_whistle 3 none ∈ g_wk := g_wk_of (k := 8) (j := 163) rfl rfl
theorem mkX12_whistle : g_mck (1, 0, 8, 163, 1, 13, 8, 162, 0, 105) (g_cn 12, yX12_whistle, cX12_whistle, 3, none, g_look2 ttX12_whistle) = true := by decide +kernel
theorem cwX12_nursesGo : Cond.code yX12_nursesGo cX12_nursesGo 3 none ∈ g_wk := g_wk_of (k := 8) (j := 175) rfl rfl
theorem mkX12_nursesGo : g_mck (1, 0, 8, 175, 1, 13, 8, 174, 0, 108) (g_cn 12, yX12_nursesGo, cX12_nursesGo, 3, none, g_look2 ttX12_nursesGo) = true := by decide +kernel
theorem cwX12_judges : Cond.code yX12_judges cX12_judges 3 none ∈ g_wk := g_wk_of (k := 8) (j := 188) rfl rfl
theorem mkX12_judges : g_mck (1, 0, 8, 188, 1, 13, 8, 187, 0, 111) (g_cn 12, yX12_judges, cX12_judges, 3, none, g_look2 ttX12_judges) = true := by decide +kernel
theorem cwX12_go : Cond.code yX12_go cX12_go 3 none ∈ g_wk := g_wk_of (k := 8) (j := 86) rfl rfl
theorem mkX12_go : g_mck (1, 1, 8, 86, 1, 13, 8, 85, 0, 88) (g_cn 12, yX12_go, cX12_go, 3, none, g_look2 ttX12_go) = true := by decide +kernel
theorem cwX12_months : Cond.code yX12_months cX12_months 2 (some .int) ∈ g_wk := g_wk_of (k := 8) (j := 82) rfl rfl
theorem mkX12_months : g_mck (1, 1, 8, 82, 1, 13, 8, 80, 8, 81) (g_cn 12, yX12_months, cX12_months, 2, (some .int), g_look2 ttX12_months) = true := by decide +kernel
theorem cwX12_laysAside : Cond.code yX12_laysAside cX12_laysAside 4 none ∈ g_wk := g_wk_of (k := 8) (j := 205) rfl rfl
theorem mkX12_laysAside : g_mck (1, 1, 8, 205, 1, 13, 8, 204, 0, 114) (g_cn 12, yX12_laysAside, cX12_laysAside, 4, none, g_look2 ttX12_laysAside) = true := by decide +kernel
theorem cwX12_bringsBack : Cond.code yX12_bringsBack cX12_bringsBack 4 none ∈ g_wk := g_wk_of (k := 8) (j := 209) rfl rfl
theorem mkX12_bringsBack : g_mck (1, 1, 8, 209, 1, 13, 8, 208, 0, 115) (g_cn 12, yX12_bringsBack, cX12_bringsBack, 4, none, g_look2 ttX12_bringsBack) = true := by decide +kernel
theorem cwX12_tried : Cond.code yX12_tried cX12_tried 4 (some .int) ∈ g_wk := g_wk_of (k := 8) (j := 200) rfl rfl
theorem mkX12_tried : g_mck (1, 2, 8, 200, 1, 13, 8, 198, 8, 199) (g_cn 12, yX12_tried, cX12_tried, 4, (some .int), g_look2 ttX12_tried) = true := by decide +kernel
theorem cwX12_orLess : Cond.code yX12_orLess cX12_orLess 1 (some .int) ∈ g_wk := g_wk_of (k := 8) (j := 216) rfl rfl
theorem mkX12_orLess : g_mck (0, 1, 8, 216, 1, 13, 8, 215, 0, 0) (g_cn 12, yX12_orLess, cX12_orLess, 1, (some .int), g_look2 ttX12_orLess) = true := by decide +kernel
theorem cwX12_gustIs : Cond.code yX12_gustIs cX12_gustIs 3 (some .int) ∈ g_wk := g_wk_of (k := 8) (j := 213) rfl rfl
theorem mkX12_gustIs : g_mck (1, 2, 8, 213, 1, 13, 8, 211, 8, 212) (g_cn 12, yX12_gustIs, cX12_gustIs, 3, (some .int), g_look2 ttX12_gustIs) = true := by decide +kernel
theorem cwX12_setIn : Cond.code yX12_setIn cX12_setIn 4 (some .int) ∈ g_wk := g_wk_of (k := 8) (j := 224) rfl rfl
theorem mkX12_setIn : g_mck (1, 1, 8, 224, 1, 13, 8, 223, 0, 116) (g_cn 12, yX12_setIn, cX12_setIn, 4, (some .int), g_look2 ttX12_setIn) = true := by decide +kernel
theorem cwX12_brokenIn : Cond.code yX12_brokenIn cX12_brokenIn 3 (some .int) ∈ g_wk := g_wk_of (k := 8) (j := 228) rfl rfl
theorem mkX12_brokenIn : g_mck (1, 1, 8, 228, 1, 13, 8, 227, 0, 117) (g_cn 12, yX12_brokenIn, cX12_brokenIn, 3, (some .int), g_look2 ttX12_brokenIn) = true := by decide +kernel
theorem cwX12_wardIs : Cond.code yX12_wardIs cX12_wardIs 3 (some .int) ∈ g_wk := g_wk_of (k := 8) (j := 220) rfl rfl
theorem mkX12_wardIs : g_mck (1, 2, 8, 220, 1, 13, 8, 218, 8, 219) (g_cn 12, yX12_wardIs, cX12_wardIs, 3, (some .int), g_look2 ttX12_wardIs) = true := by decide +kernel
theorem cwX12_nurseIs : Cond.code yX12_nurseIs cX12_nurseIs 3 (some .int) ∈ g_wk := g_wk_of (k := 8) (j := 232) rfl rfl
theorem mkX12_nurseIs : g_mck (1, 2, 8, 232, 1, 13, 8, 230, 8, 231) (g_cn 12, yX12_nurseIs, cX12_nurseIs, 3, (some .int), g_look2 ttX12_nurseIs) = true := by decide +kernel
theorem cwX12_quarrel : Cond.code yX12_quarrel cX12_quarrel 3 (some .int) ∈ g_wk := g_wk_of (k := 8) (j := 236) rfl rfl
theorem mkX12_quarrel : g_mck (1, 2, 8, 236, 1, 13, 8, 234, 8, 235) (g_cn 12, yX12_quarrel, cX12_quarrel, 3, (some .int), g_look2 ttX12_quarrel) = true := by decide +kernel
theorem cwX12_toldGusts : Cond.code yX12_toldGusts cX12_toldGusts 3 (some .int) ∈ g_wk := g_wk_of (k := 9) (j := 8) rfl rfl
theorem mkX12_toldGusts : g_mck (1, 0, 9, 8, 1, 13, 9, 7, 0, 119) (g_cn 12, yX12_toldGusts, cX12_toldGusts, 3, (some .int), g_look2 ttX12_toldGusts) = true := by decide +kernel
theorem cwX12_areGusts : Cond.code yX12_areGusts cX12_areGusts 4 (some .boolean) ∈ g_wk := g_wk_of (k := 9) (j := 4) rfl rfl
theorem mkX12_areGusts : g_mck (1, 3, 9, 4, 1, 13, 9, 3, 0, 118) (g_cn 12, yX12_areGusts, cX12_areGusts, 4, (some .boolean), g_look2 ttX12_areGusts) = true := by decide +kernel
theorem cwX12_housed : Cond.code yX12_housed cX12_housed 9 (some .int) ∈ g_wk := g_wk_of (k := 9) (j := 0) rfl rfl
theorem mkX12_housed : g_mck (1, 3, 9, 0, 1, 13, 8, 238, 8, 239) (g_cn 12, yX12_housed, cX12_housed, 9, (some .int), g_look2 ttX12_housed) = true := by decide +kernel
theorem cwX12_wind : Cond.code yX12_wind cX12_wind 4 (some .boolean) ∈ g_wk := g_wk_of (k := 9) (j := 44) rfl rfl
theorem mkX12_wind : g_mck (1, 3, 9, 44, 1, 13, 9, 42, 9, 43) (g_cn 12, yX12_wind, cX12_wind, 4, (some .boolean), g_look2 ttX12_wind) = true := by decide +kernel
theorem cwX12_leaving : Cond.code yX12_leaving cX12_leaving 3 (some .int) ∈ g_wk := g_wk_of (k := 9) (j := 50) rfl rfl
theorem mkX12_leaving : g_mck (1, 2, 9, 50, 1, 13, 9, 48, 9, 49) (g_cn 12, yX12_leaving, cX12_leaving, 3, (some .int), g_look2 ttX12_leaving) = true := by decide +kernel
theorem cwX12_letGo : Cond.code yX12_letGo cX12_letGo 5 (some .int) ∈ g_wk := g_wk_of (k := 9) (j := 66) rfl rfl
theorem mkX12_letGo : g_mck (1, 1, 9, 66, 1, 13, 9, 64, 9, 65) (g_cn 12, yX12_letGo, cX12_letGo, 5, (some .int), g_look2 ttX12_letGo) = true := by decide +kernel
theorem cwX12_home : Cond.code yX12_home cX12_home 3 (some .boolean) ∈ g_wk := g_wk_of (k := 9) (j := 70) rfl rfl
theorem mkX12_home : g_mck (1, 2, 9, 70, 1, 13, 9, 68, 9, 69) (g_cn 12, yX12_home, cX12_home, 3, (some .boolean), g_look2 ttX12_home) = true := by decide +kernel
theorem cwX12_from : Cond.code yX12_from cX12_from 8 (some .int) ∈ g_wk := g_wk_of (k := 9) (j := 74) rfl rfl
theorem mkX12_from : g_mck (1, 3, 9, 74, 1, 13, 9, 72, 9, 73) (g_cn 12, yX12_from, cX12_from, 8, (some .int), g_look2 ttX12_from) = true := by decide +kernel
theorem cwX12_taught : Cond.code yX12_taught cX12_taught 4 (some .int) ∈ g_wk := g_wk_of (k := 9) (j := 86) rfl rfl
theorem mkX12_taught : g_mck (1, 3, 9, 86, 1, 13, 9, 84, 9, 85) (g_cn 12, yX12_taught, cX12_taught, 4, (some .int), g_look2 ttX12_taught) = true := by decide +kernel
theorem cwX12_house : Cond.code yX12_house cX12_house 4 (some .boolean) ∈ g_wk := g_wk_of (k := 9) (j := 94) rfl rfl
theorem mkX12_house : g_mck (1, 3, 9, 94, 1, 13, 9, 92, 9, 93) (g_cn 12, yX12_house, cX12_house, 4, (some .boolean), g_look2 ttX12_house) = true := by decide +kernel
theorem cwX12_placed : Cond.code yX12_placed cX12_placed 4 (some .int) ∈ g_wk := g_wk_of (k := 9) (j := 98) rfl rfl
theorem mkX12_placed : g_mck (1, 2, 9, 98, 1, 13, 9, 96, 9, 97) (g_cn 12, yX12_placed, cX12_placed, 4, (some .int), g_look2 ttX12_placed) = true := by decide +kernel
theorem cwX12_fair : Cond.code yX12_fair cX12_fair 7 (some .int) ∈ g_wk := g_wk_of (k := 9) (j := 122) rfl rfl
theorem mkX12_fair : g_mck (1, 1, 9, 122, 1, 13, 9, 120, 9, 121) (g_cn 12, yX12_fair, cX12_fair, 7, (some .int), g_look2 ttX12_fair) = true := by decide +kernel
theorem cwX12_escaped : Cond.code yX12_escaped cX12_escaped 9 (some .int) ∈ g_wk := g_wk_of (k := 9) (j := 130) rfl rfl
theorem mkX12_escaped : g_mck (1, 4, 9, 130, 1, 13, 9, 128, 9, 129) (g_cn 12, yX12_escaped, cX12_escaped, 9, (some .int), g_look2 ttX12_escaped) = true := by decide +kernel
theorem cwX12_toldNurses : Cond.code yX12_toldNurses cX12_toldNurses 3 (some .int) ∈ g_wk := g_wk_of (k := 9) (j := 158) rfl rfl
theorem mkX12_toldNurses : g_mck (1, 0, 9, 158, 1, 13, 9, 157, 0, 141) (g_cn 12, yX12_toldNurses, cX12_toldNurses, 3, (some .int), g_look2 ttX12_toldNurses) = true := by decide +kernel
theorem cwX12_nursed : Cond.code yX12_nursed cX12_nursed 10 (some .int) ∈ g_wk := g_wk_of (k := 9) (j := 154) rfl rfl
theorem mkX12_nursed : g_mck (1, 3, 9, 154, 1, 13, 9, 152, 9, 153) (g_cn 12, yX12_nursed, cX12_nursed, 10, (some .int), g_look2 ttX12_nursed) = true := by decide +kernel
theorem cwX12_round : Cond.code yX12_round cX12_round 8 (some .int) ∈ g_wk := g_wk_of (k := 9) (j := 166) rfl rfl
theorem mkX12_round : g_mck (1, 2, 9, 166, 1, 13, 9, 164, 9, 165) (g_cn 12, yX12_round, cX12_round, 8, (some .int), g_look2 ttX12_round) = true := by decide +kernel
theorem cwX12_added : Cond.code yX12_added cX12_added 5 (some .int) ∈ g_wk := g_wk_of (k := 9) (j := 174) rfl rfl
theorem mkX12_added : g_mck (1, 2, 9, 174, 1, 13, 9, 172, 9, 173) (g_cn 12, yX12_added, cX12_added, 5, (some .int), g_look2 ttX12_added) = true := by decide +kernel
theorem cwX12_seed : Cond.code yX12_seed cX12_seed 2 (some .boolean) ∈ g_wk := g_wk_of (k := 9) (j := 181) rfl rfl
theorem mkX12_seed : g_mck (1, 1, 9, 181, 1, 13, 9, 179, 9, 180) (g_cn 12, yX12_seed, cX12_seed, 2, (some .boolean), g_look2 ttX12_seed) = true := by decide +kernel
theorem cwX12_keep : Cond.code yX12_keep cX12_keep 1 (some .int) ∈ g_wk := g_wk_of (k := 9) (j := 186) rfl rfl
theorem mkX12_keep : g_mck (1, 0, 9, 186, 1, 13, 9, 184, 9, 185) (g_cn 12, yX12_keep, cX12_keep, 1, (some .int), g_look2 ttX12_keep) = true := by decide +kernel
theorem cwX12_undo : Cond.code yX12_undo cX12_undo 1 (some .boolean) ∈ g_wk := g_wk_of (k := 9) (j := 190) rfl rfl
theorem mkX12_undo : g_mck (1, 0, 9, 190, 1, 13, 9, 188, 9, 189) (g_cn 12, yX12_undo, cX12_undo, 1, (some .boolean), g_look2 ttX12_undo) = true := by decide +kernel
theorem cwX12_check : Cond.code yX12_check cX12_check 3 (some .int) ∈ g_wk := g_wk_of (k := 9) (j := 194) rfl rfl
theorem mkX12_check : g_mck (1, 1, 9, 194, 1, 13, 9, 192, 9, 193) (g_cn 12, yX12_check, cX12_check, 3, (some .int), g_look2 ttX12_check) = true := by decide +kernel
theorem cwX12_toldOf : Cond.code yX12_toldOf cX12_toldOf 4 (some .int) ∈ g_wk := g_wk_of (k := 9) (j := 203) rfl rfl
theorem mkX12_toldOf : g_mck (1, 1, 9, 203, 1, 13, 9, 202, 0, 144) (g_cn 12, yX12_toldOf, cX12_toldOf, 4, (some .int), g_look2 ttX12_toldOf) = true := by decide +kernel
theorem cwX12_count : Cond.code yX12_count cX12_count 2 (some .int) ∈ g_wk := g_wk_of (k := 9) (j := 199) rfl rfl
theorem mkX12_count : g_mck (1, 1, 9, 199, 1, 13, 9, 197, 9, 198) (g_cn 12, yX12_count, cX12_count, 2, (some .int), g_look2 ttX12_count) = true := by decide +kernel
theorem cwJ6_bitCount_0f7a4 : Cond.code yJ6_bitCount_0f7a4 cJ6_bitCount_0f7a4 1 (some .int) ∈ g_wk := g_wk_of (k := 3) (j := 23) rfl rfl
theorem mkJ6_bitCount_0f7a4 : g_mck (0, 1, 3, 23, 1, 14, 3, 22, 0, 0) (g_cn 14, yJ6_bitCount_0f7a4, cJ6_bitCount_0f7a4, 1, (some .int), g_look2 ttJ6_bitCount_0f7a4) = true := by decide +kernel
theorem cwJ7_fill_53178 : Cond.code yJ7_fill_53178 cJ7_fill_53178 4 none ∈ g_wk := g_wk_of (k := 4) (j := 100) rfl rfl
theorem mkJ7_fill_53178 : g_mck (0, 2, 4, 100, 1, 22, 4, 99, 0, 0) (g_cn 16, yJ7_fill_53178, cJ7_fill_53178, 4, none, g_look2 ttJ7_fill_53178) = true := by decide +kernel
