set_option maxRecDepth 100000 in
theorem tkX9_placeAfter : ttX9_placeAfter.all (fun r => r.2.all (g_cE 9 false cX9_placeAfter)) = true := by decide +kernel
set_option maxRecDepth 100000 in
theorem tkX10_init : ttX10_init.all (fun r => r.2.all (g_cE 10 true cX10_init)) = true := by decide +kernel
set_option maxRecDepth 100000 in
theorem tkX11_init : ttX11_init.all (fun r => r.2.all (g_cE 11 true cX11_init)) = true := by decide +kernel
set_option maxRecDepth 100000 in
theorem tkX11_gust : ttX11_gust.all (fun r => r.2.all (g_cE 11 false cX11_gust)) = true := by decide +kernel
set_option maxRecDepth 100000 in
theorem tkX11_name : ttX11_name.all (fun r => r.2.all (g_cE 11 false cX11_name)) = true := by decide +kernel
set_option maxRecDepth 100000 in
theorem tkX11_moves : ttX11_moves.all (fun r => r.2.all (g_cE 11 false cX11_moves)) = true := by decide +kernel
set_option maxRecDepth 100000 in
theorem tkX11_habit : ttX11_habit.all (fun r => r.2.all (g_cE 11 false cX11_habit)) = true := by decide +kernel
set_option maxRecDepth 100000 in
theorem tkX11_ward : ttX11_ward.all (fun r => r.2.all (g_cE 11 false cX11_ward)) = true := by decide +kernel
set_option maxRecDepth 100000 in
theorem tkX11_nurse : ttX11_nurse.all (fun r => r.2.all (g_cE 11 false cX11_nurse)) = true := by decide +kernel
set_option maxRecDepth 100000 in
theorem tkX11_needs : ttX11_needs.all (fun r => r.2.all (g_cE 11 false cX11_needs)) = true := by decide +kernel
set_option maxRecDepth 100000 in
theorem tkX11_wind : ttX11_wind.all (fun r => r.2.all (g_cE 11 false cX11_wind)) = true := by decide +kernel
set_option maxRecDepth 100000 in
theorem tkX11_home : ttX11_home.all (fun r => r.2.all (g_cE 11 false cX11_home)) = true := by decide +kernel
set_option maxRecDepth 100000 in
theorem tkX11_house : ttX11_house.all (fun r => r.2.all (g_cE 11 false cX11_house)) = true := by decide +kernel
set_option maxRecDepth 100000 in
theorem tkX11_seed : ttX11_seed.all (fun r => r.2.all (g_cE 11 false cX11_seed)) = true := by decide +kernel
set_option maxRecDepth 100000 in
theorem tkX11_feed : ttX11_feed.all (fun r => r.2.all (g_cE 11 false cX11_feed)) = true := by decide +kernel
set_option maxRecDepth 100000 in
theorem tkX11_law : ttX11_law.all (fun r => r.2.all (g_cE 11 false cX11_law)) = true := by decide +kernel
set_option maxRecDepth 100000 in
theorem tkX11_rules : ttX11_rules.all (fun r => r.2.all (g_cE 11 false cX11_rules)) = true := by decide +kernel
set_option maxRecDepth 100000 in
theorem tkX11_timetable : ttX11_timetable.all (fun r => r.2.all (g_cE 11 false cX11_timetable)) = true := by decide +kernel
set_option maxRecDepth 100000 in
theorem tkX11_months : ttX11_months.all (fun r => r.2.all (g_cE 11 false cX11_months)) = true := by decide +kernel
set_option maxRecDepth 100000 in
theorem tkX11_tried : ttX11_tried.all (fun r => r.2.all (g_cE 11 false cX11_tried)) = true := by decide +kernel
set_option maxRecDepth 100000 in
theorem tkX11_gustIs : ttX11_gustIs.all (fun r => r.2.all (g_cE 11 false cX11_gustIs)) = true := by decide +kernel
set_option maxRecDepth 100000 in
theorem tkX11_wardIs : ttX11_wardIs.all (fun r => r.2.all (g_cE 11 false cX11_wardIs)) = true := by decide +kernel
set_option maxRecDepth 100000 in
theorem tkX11_nurseIs : ttX11_nurseIs.all (fun r => r.2.all (g_cE 11 false cX11_nurseIs)) = true := by decide +kernel
set_option maxRecDepth 100000 in
theorem tkX11_quarrel : ttX11_quarrel.all (fun r => r.2.all (g_cE 11 false cX11_quarrel)) = true := by decide +kernel
set_option maxRecDepth 100000 in
theorem tkX11_count : ttX11_count.all (fun r => r.2.all (g_cE 11 false cX11_count)) = true := by decide +kernel
set_option maxRecDepth 100000 in
theorem tkX11_added : ttX11_added.all (fun r => r.2.all (g_cE 11 false cX11_added)) = true := by decide +kernel
set_option maxRecDepth 100000 in
theorem tkX11_housed : ttX11_housed.all (fun r => r.2.all (g_cE 11 false cX11_housed)) = true := by decide +kernel
set_option maxRecDepth 100000 in
theorem tkX11_leaving : ttX11_leaving.all (fun r => r.2.all (g_cE 11 false cX11_leaving)) = true := by decide +kernel
set_option maxRecDepth 100000 in
theorem tkX11_letGo : ttX11_letGo.all (fun r => r.2.all (g_cE 11 false cX11_letGo)) = true := by decide +kernel
set_option maxRecDepth 100000 in
theorem tkX11_from : ttX11_from.all (fun r => r.2.all (g_cE 11 false cX11_from)) = true := by decide +kernel
set_option maxRecDepth 100000 in
theorem tkX11_taught : ttX11_taught.all (fun r => r.2.all (g_cE 11 false cX11_taught)) = true := by decide +kernel
set_option maxRecDepth 100000 in
theorem tkX11_placed : ttX11_placed.all (fun r => r.2.all (g_cE 11 false cX11_placed)) = true := by decide +kernel
set_option maxRecDepth 100000 in
theorem tkX11_fair : ttX11_fair.all (fun r => r.2.all (g_cE 11 false cX11_fair)) = true := by decide +kernel
set_option maxRecDepth 100000 in
theorem tkX11_escaped : ttX11_escaped.all (fun r => r.2.all (g_cE 11 false cX11_escaped)) = true := by decide +kernel
set_option maxRecDepth 100000 in
theorem tkX11_nursed : ttX11_nursed.all (fun r => r.2.all (g_cE 11 false cX11_nursed)) = true := by decide +kernel
set_option maxRecDepth 100000 in
theorem tkX11_round : ttX11_round.all (fun r => r.2.all (g_cE 11 false cX11_round)) = true := by decide +kernel
set_option maxRecDepth 100000 in
theorem tkX11_keep : ttX11_keep.all (fun r => r.2.all (g_cE 11 false cX11_keep)) = true := by decide +kernel
set_option maxRecDepth 100000 in
theorem tkX11_undo : ttX11_undo.all (fun r => r.2.all (g_cE 11 false cX11_undo)) = true := by decide +kernel
set_option maxRecDepth 100000 in
theorem tkX11_check : ttX11_check.all (fun r => r.2.all (g_cE 11 false cX11_check)) = true := by decide +kernel
set_option maxRecDepth 100000 in
theorem tkX11_within : ttX11_within.all (fun r => r.2.all (g_cE 11 false cX11_within)) = true := by decide +kernel
