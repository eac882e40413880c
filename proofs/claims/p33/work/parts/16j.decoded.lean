set_option maxRecDepth 100000 in
theorem tkX12_isKeptBy : ttX12_isKeptBy.all (fun r => r.2.all (g_cE 12 false cX12_isKeptBy)) = true := by decide +kernel
set_option maxRecDepth 100000 in
theorem tkX12_isAngry : ttX12_isAngry.all (fun r => r.2.all (g_cE 12 false cX12_isAngry)) = true := by decide +kernel
set_option maxRecDepth 100000 in
theorem tkX12_doQuarrel : ttX12_doQuarrel.all (fun r => r.2.all (g_cE 12 false cX12_doQuarrel)) = true := by decide +kernel
set_option maxRecDepth 100000 in
theorem tkX12_isTold : ttX12_isTold.all (fun r => r.2.all (g_cE 12 false cX12_isTold)) = true := by decide +kernel
set_option maxRecDepth 100000 in
theorem tkX12_isWard : ttX12_isWard.all (fun r => r.2.all (g_cE 12 false cX12_isWard)) = true := by decide +kernel
set_option maxRecDepth 100000 in
theorem tkX12_isThere : ttX12_isThere.all (fun r => r.2.all (g_cE 12 false cX12_isThere)) = true := by decide +kernel
set_option maxRecDepth 100000 in
theorem tkX12_areHabits : ttX12_areHabits.all (fun r => r.2.all (g_cE 12 false cX12_areHabits)) = true := by decide +kernel
set_option maxRecDepth 100000 in
theorem tkX12_isIn : ttX12_isIn.all (fun r => r.2.all (g_cE 12 false cX12_isIn)) = true := by decide +kernel
set_option maxRecDepth 100000 in
theorem tkX12_manyIn : ttX12_manyIn.all (fun r => r.2.all (g_cE 12 false cX12_manyIn)) = true := by decide +kernel
set_option maxRecDepth 100000 in
theorem tkX12_togetherIn : ttX12_togetherIn.all (fun r => r.2.all (g_cE 12 false cX12_togetherIn)) = true := by decide +kernel
set_option maxRecDepth 100000 in
theorem tkX12_gust : ttX12_gust.all (fun r => r.2.all (g_cE 12 false cX12_gust)) = true := by decide +kernel
set_option maxRecDepth 100000 in
theorem tkX12_name : ttX12_name.all (fun r => r.2.all (g_cE 12 false cX12_name)) = true := by decide +kernel
set_option maxRecDepth 100000 in
theorem tkX12_moves : ttX12_moves.all (fun r => r.2.all (g_cE 12 false cX12_moves)) = true := by decide +kernel
set_option maxRecDepth 100000 in
theorem tkX12_habit : ttX12_habit.all (fun r => r.2.all (g_cE 12 false cX12_habit)) = true := by decide +kernel
set_option maxRecDepth 100000 in
theorem tkX12_ward : ttX12_ward.all (fun r => r.2.all (g_cE 12 false cX12_ward)) = true := by decide +kernel
set_option maxRecDepth 100000 in
theorem tkX12_nurse : ttX12_nurse.all (fun r => r.2.all (g_cE 12 false cX12_nurse)) = true := by decide +kernel
set_option maxRecDepth 100000 in
theorem tkX12_needs : ttX12_needs.all (fun r => r.2.all (g_cE 12 false cX12_needs)) = true := by decide +kernel
set_option maxRecDepth 100000 in
theorem tkX12_repeats : ttX12_repeats.all (fun r => r.2.all (g_cE 12 false cX12_repeats)) = true := by decide +kernel
set_option maxRecDepth 100000 in
theorem tkX12_timesTold : ttX12_timesTold.all (fun r => r.2.all (g_cE 12 false cX12_timesTold)) = true := by decide +kernel
set_option maxRecDepth 100000 in
theorem tkX12_monthTold_0 : ttX12_monthTold_0.all (g_cE 12 false cX12_monthTold) = true := by decide +kernel
set_option maxRecDepth 100000 in
theorem tkX12_monthTold_1 : ttX12_monthTold_1.all (g_cE 12 false cX12_monthTold) = true := by decide +kernel
set_option maxRecDepth 100000 in
theorem tkX12_monthTold_2 : ttX12_monthTold_2.all (g_cE 12 false cX12_monthTold) = true := by decide +kernel
set_option maxRecDepth 100000 in
theorem tkX12_monthTold_3 : ttX12_monthTold_3.all (g_cE 12 false cX12_monthTold) = true := by decide +kernel
set_option maxRecDepth 100000 in
theorem tkX12_monthTold_4 : ttX12_monthTold_4.all (g_cE 12 false cX12_monthTold) = true := by decide +kernel
set_option maxRecDepth 100000 in
theorem tkX12_monthTold_5 : ttX12_monthTold_5.all (g_cE 12 false cX12_monthTold) = true := by decide +kernel
set_option maxRecDepth 100000 in
theorem tkX12_monthTold_6 : ttX12_monthTold_6.all (g_cE 12 false cX12_monthTold) = true := by decide +kernel
set_option maxRecDepth 100000 in
theorem tkX12_monthTold_7 : ttX12_monthTold_7.all (g_cE 12 false cX12_monthTold) = true := by decide +kernel
set_option maxRecDepth 100000 in
theorem tkX12_monthTold_8 : ttX12_monthTold_8.all (g_cE 12 false cX12_monthTold) = true := by decide +kernel
set_option maxRecDepth 100000 in
theorem tkX12_monthTold_9 : ttX12_monthTold_9.all (g_cE 12 false cX12_monthTold) = true := by decide +kernel
set_option maxRecDepth 100000 in
theorem tkX12_monthTold_10 : ttX12_monthTold_10.all (g_cE 12 false cX12_monthTold) = true := by decide +kernel
set_option maxRecDepth 100000 in
theorem tkX12_monthTold_11 : ttX12_monthTold_11.all (g_cE 12 false cX12_monthTold) = true := by decide +kernel
set_option maxRecDepth 100000 in
theorem tkX12_monthTold_12 : ttX12_monthTold_12.all (g_cE 12 false cX12_monthTold) = true := by decide +kernel
set_option maxRecDepth 100000 in
theorem tkX12_monthTold_13 : ttX12_monthTold_13.all (g_cE 12 false cX12_monthTold) = true := by decide +kernel
set_option maxRecDepth 100000 in
theorem tkX12_monthTold_14 : ttX12_monthTold_14.all (g_cE 12 false cX12_monthTold) = true := by decide +kernel
theorem tkX12_monthTold : ttX12_monthTold.all (fun r => r.2.all (g_cE 12 false cX12_monthTold)) = true := by
  unfold ttX12_monthTold
  simp only [List.all_cons, List.all_nil, Bool.and_true, Bool.and_eq_true]
  exact ⟨tkX12_monthTold_0, tkX12_monthTold_1, tkX12_monthTold_2, tkX12_monthTold_3, tkX12_monthTold_4, tkX12_monthTold_5, tkX12_monthTold_6, tkX12_monthTold_7, tkX12_monthTold_8, tkX12_monthTold_9, tkX12_monthTold_10, tkX12_monthTold_11, tkX12_monthTold_12, tkX12_monthTold_13, tkX12_monthTold_14⟩
set_option maxRecDepth 100000 in
theorem tkX12_timetable : ttX12_timetable.all (fun r => r.2.all (g_cE 12 false cX12_timetable)) = true := by decide +kernel
set_option maxRecDepth 100000 in
theorem tkX12_lessonOf : ttX12_lessonOf.all (fun r => r.2.all (g_cE 12 false cX12_lessonOf)) = true := by decide +kernel
set_option maxRecDepth 100000 in
theorem tkX12_draw : ttX12_draw.all (fun r => r.2.all (g_cE 12 false cX12_draw)) = true := by decide +kernel
set_option maxRecDepth 100000 in
theorem tkX12_weakens : ttX12_weakens.all (fun r => r.2.all (g_cE 12 false cX12_weakens)) = true := by decide +kernel
set_option maxRecDepth 100000 in
theorem tkX12_isWell : ttX12_isWell.all (fun r => r.2.all (g_cE 12 false cX12_isWell)) = true := by decide +kernel
