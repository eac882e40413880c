set_option maxRecDepth 100000 in
theorem tkX8_at : ttX8_at.all (fun r => r.2.all (g_cE 8 false cX8_at)) = true := by decide +kernel
set_option maxRecDepth 100000 in
theorem tkX8_empty : ttX8_empty.all (fun r => r.2.all (g_cE 8 false cX8_empty)) = true := by decide +kernel
set_option maxRecDepth 100000 in
theorem tkX9_init : ttX9_init.all (fun r => r.2.all (g_cE 9 true cX9_init)) = true := by decide +kernel
set_option maxRecDepth 100000 in
theorem tkX9_learnFrom : ttX9_learnFrom.all (fun r => r.2.all (g_cE 9 false cX9_learnFrom)) = true := by decide +kernel
set_option maxRecDepth 100000 in
theorem tkX9_lessonAt : ttX9_lessonAt.all (fun r => r.2.all (g_cE 9 false cX9_lessonAt)) = true := by decide +kernel
set_option maxRecDepth 100000 in
theorem tkX9_placeAfter : ttX9_placeAfter.all (fun r => r.2.all (g_cE 9 false cX9_placeAfter)) = true := by decide +kernel
set_option maxRecDepth 100000 in
theorem tkX10_init : ttX10_init.all (fun r => r.2.all (g_cE 10 true cX10_init)) = true := by decide +kernel
set_option maxRecDepth 100000 in
theorem tkX10_sendOff : ttX10_sendOff.all (fun r => r.2.all (g_cE 10 false cX10_sendOff)) = true := by decide +kernel
set_option maxRecDepth 100000 in
theorem tkX10_windOf : ttX10_windOf.all (fun r => r.2.all (g_cE 10 false cX10_windOf)) = true := by decide +kernel
set_option maxRecDepth 100000 in
theorem tkX10_sendFrom_0 : ttX10_sendFrom_0.all (g_cE 10 false cX10_sendFrom) = true := by decide +kernel
set_option maxRecDepth 100000 in
theorem tkX10_sendFrom_1 : ttX10_sendFrom_1.all (g_cE 10 false cX10_sendFrom) = true := by decide +kernel
set_option maxRecDepth 100000 in
theorem tkX10_sendFrom_2 : ttX10_sendFrom_2.all (g_cE 10 false cX10_sendFrom) = true := by decide +kernel
set_option maxRecDepth 100000 in
theorem tkX10_sendFrom_3 : ttX10_sendFrom_3.all (g_cE 10 false cX10_sendFrom) = true := by decide +kernel
set_option maxRecDepth 100000 in
theorem tkX10_sendFrom_4 : ttX10_sendFrom_4.all (g_cE 10 false cX10_sendFrom) = true := by decide +kernel
set_option maxRecDepth 100000 in
theorem tkX10_sendFrom_5 : ttX10_sendFrom_5.all (g_cE 10 false cX10_sendFrom) = true := by decide +kernel
set_option maxRecDepth 100000 in
theorem tkX10_sendFrom_6 : ttX10_sendFrom_6.all (g_cE 10 false cX10_sendFrom) = true := by decide +kernel
set_option maxRecDepth 100000 in
theorem tkX10_sendFrom_7 : ttX10_sendFrom_7.all (g_cE 10 false cX10_sendFrom) = true := by decide +kernel
set_option maxRecDepth 100000 in
theorem tkX10_sendFrom_8 : ttX10_sendFrom_8.all (g_cE 10 false cX10_sendFrom) = true := by decide +kernel
set_option maxRecDepth 100000 in
theorem tkX10_sendFrom_9 : ttX10_sendFrom_9.all (g_cE 10 false cX10_sendFrom) = true := by decide +kernel
set_option maxRecDepth 100000 in
theorem tkX10_sendFrom_10 : ttX10_sendFrom_10.all (g_cE 10 false cX10_sendFrom) = true := by decide +kernel
theorem tkX10_sendFrom : ttX10_sendFrom.all (fun r => r.2.all (g_cE 10 false cX10_sendFrom)) = true := by
  unfold ttX10_sendFrom
  simp only [List.all_cons, List.all_nil, Bool.and_true, Bool.and_eq_true]
  exact ⟨tkX10_sendFrom_0, tkX10_sendFrom_1, tkX10_sendFrom_2, tkX10_sendFrom_3, tkX10_sendFrom_4, tkX10_sendFrom_5, tkX10_sendFrom_6, tkX10_sendFrom_7, tkX10_sendFrom_8, tkX10_sendFrom_9, tkX10_sendFrom_10⟩
set_option maxRecDepth 100000 in
theorem tkX10_mayBeat : ttX10_mayBeat.all (fun r => r.2.all (g_cE 10 false cX10_mayBeat)) = true := by decide +kernel
set_option maxRecDepth 100000 in
theorem tkX10_windOfGale : ttX10_windOfGale.all (fun r => r.2.all (g_cE 10 false cX10_windOfGale)) = true := by decide +kernel
set_option maxRecDepth 100000 in
theorem tkX10_carries : ttX10_carries.all (fun r => r.2.all (g_cE 10 false cX10_carries)) = true := by decide +kernel
set_option maxRecDepth 100000 in
theorem tkX11_init : ttX11_init.all (fun r => r.2.all (g_cE 11 true cX11_init)) = true := by decide +kernel
set_option maxRecDepth 100000 in
theorem tkX11_gust : ttX11_gust.all (fun r => r.2.all (g_cE 11 false cX11_gust)) = true := by decide +kernel
set_option maxRecDepth 100000 in
theorem tkX11_name : ttX11_name.all (fun r => r.2.all (g_cE 11 false cX11_name)) = true := by decide +kernel
set_option maxRecDepth 100000 in
theorem tkX11_moves : ttX11_moves.all (fun r => r.2.all (g_cE 11 false cX11_moves)) = true := by decide +kernel
set_option maxRecDepth 100000 in
theorem tkX11_habit : ttX11_habit.all (fun r => r.2.all (g_cE 11 false cX11_habit)) = true := by decide +kernel
set_option maxRecDepth 100000 in
theorem tkX11_ward : ttX11_ward.all (fun r => r.2.all (g_cE 11 false cX11_ward)) = true := by decide +kernel
set_option maxRecDepth 100000 in
theorem tkX11_nurse : ttX11_nurse.all (fun r => r.2.all (g_cE 11 false cX11_nurse)) = true := by decide +kernel
set_option maxRecDepth 100000 in
theorem tkX11_needs : ttX11_needs.all (fun r => r.2.all (g_cE 11 false cX11_needs)) = true := by decide +kernel
set_option maxRecDepth 100000 in
theorem tkX11_wind : ttX11_wind.all (fun r => r.2.all (g_cE 11 false cX11_wind)) = true := by decide +kernel
set_option maxRecDepth 100000 in
theorem tkX11_home : ttX11_home.all (fun r => r.2.all (g_cE 11 false cX11_home)) = true := by decide +kernel
set_option maxRecDepth 100000 in
theorem tkX11_house : ttX11_house.all (fun r => r.2.all (g_cE 11 false cX11_house)) = true := by decide +kernel
set_option maxRecDepth 100000 in
theorem tkX11_seed : ttX11_seed.all (fun r => r.2.all (g_cE 11 false cX11_seed)) = true := by decide +kernel
set_option maxRecDepth 100000 in
theorem tkX11_feed : ttX11_feed.all (fun r => r.2.all (g_cE 11 false cX11_feed)) = true := by decide +kernel
set_option maxRecDepth 100000 in
theorem tkX11_law : ttX11_law.all (fun r => r.2.all (g_cE 11 false cX11_law)) = true := by decide +kernel
set_option maxRecDepth 100000 in
theorem tkX11_rules : ttX11_rules.all (fun r => r.2.all (g_cE 11 false cX11_rules)) = true := by decide +kernel
set_option maxRecDepth 100000 in
theorem tkX11_timetable : ttX11_timetable.all (fun r => r.2.all (g_cE 11 false cX11_timetable)) = true := by decide +kernel
