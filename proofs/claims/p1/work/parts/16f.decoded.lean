set_option maxRecDepth 100000 in
theorem tkX12_isWard : ttX12_isWard.all (fun r => r.2.all (g_cE 12 false cX12_isWard)) = true := by decide +kernel
set_option maxRecDepth 100000 in
theorem tkX12_isThere : ttX12_isThere.all (fun r => r.2.all (g_cE 12 false cX12_isThere)) = true := by decide +kernel
set_option maxRecDepth 100000 in
theorem tkX12_areHabits : ttX12_areHabits.all (fun r => r.2.all (g_cE 12 false cX12_areHabits)) = true := by decide +kernel
set_option maxRecDepth 100000 in
theorem tkX12_isIn : ttX12_isIn.all (fun r => r.2.all (g_cE 12 false cX12_isIn)) = true := by decide +kernel
set_option maxRecDepth 100000 in
theorem tkX12_gust : ttX12_gust.all (fun r => r.2.all (g_cE 12 false cX12_gust)) = true := by decide +kernel
set_option maxRecDepth 100000 in
theorem tkX12_name : ttX12_name.all (fun r => r.2.all (g_cE 12 false cX12_name)) = true := by decide +kernel
set_option maxRecDepth 100000 in
theorem tkX12_moves : ttX12_moves.all (fun r => r.2.all (g_cE 12 false cX12_moves)) = true := by decide +kernel
set_option maxRecDepth 100000 in
theorem tkX12_habit : ttX12_habit.all (fun r => r.2.all (g_cE 12 false cX12_habit)) = true := by decide +kernel
set_option maxRecDepth 100000 in
theorem tkX12_ward : ttX12_ward.all (fun r => r.2.all (g_cE 12 false cX12_ward)) = true := by decide +kernel
set_option maxRecDepth 100000 in
theorem tkX12_nurse : ttX12_nurse.all (fun r => r.2.all (g_cE 12 false cX12_nurse)) = true := by decide +kernel
set_option maxRecDepth 100000 in
theorem tkX12_needs : ttX12_needs.all (fun r => r.2.all (g_cE 12 false cX12_needs)) = true := by decide +kernel
set_option maxRecDepth 100000 in
theorem tkX12_timetable : ttX12_timetable.all (fun r => r.2.all (g_cE 12 false cX12_timetable)) = true := by decide +kernel
set_option maxRecDepth 100000 in
theorem tkX12_lessonOf : ttX12_lessonOf.all (fun r => r.2.all (g_cE 12 false cX12_lessonOf)) = true := by decide +kernel
set_option maxRecDepth 100000 in
theorem tkX12_weakens : ttX12_weakens.all (fun r => r.2.all (g_cE 12 false cX12_weakens)) = true := by decide +kernel
set_option maxRecDepth 100000 in
theorem tkX12_isWell : ttX12_isWell.all (fun r => r.2.all (g_cE 12 false cX12_isWell)) = true := by decide +kernel
set_option maxRecDepth 100000 in
theorem tkX12_wardsGo : ttX12_wardsGo.all (fun r => r.2.all (g_cE 12 false cX12_wardsGo)) = true := by decide +kernel
set_option maxRecDepth 100000 in
theorem tkX12_breaks : ttX12_breaks.all (fun r => r.2.all (g_cE 12 false cX12_breaks)) = true := by decide +kernel
set_option maxRecDepth 100000 in
theorem tkX12_whistle : ttX12_whistle.all (fun r => r.2.all (g_cE 12 false cX12_whistle)) = true := by decide +kernel
set_option maxRecDepth 100000 in
theorem tkX12_nursesGo : ttX12_nursesGo.all (fun r => r.2.all (g_cE 12 false cX12_nursesGo)) = true := by decide +kernel
set_option maxRecDepth 100000 in
theorem tkX12_judges : ttX12_judges.all (fun r => r.2.all (g_cE 12 false cX12_judges)) = true := by decide +kernel
set_option maxRecDepth 100000 in
theorem tkX12_go : ttX12_go.all (fun r => r.2.all (g_cE 12 false cX12_go)) = true := by decide +kernel
set_option maxRecDepth 100000 in
theorem tkX12_months : ttX12_months.all (fun r => r.2.all (g_cE 12 false cX12_months)) = true := by decide +kernel
set_option maxRecDepth 100000 in
theorem tkX12_laysAside_0 : ttX12_laysAside_0.all (g_cE 12 false cX12_laysAside) = true := by decide +kernel
set_option maxRecDepth 100000 in
theorem tkX12_laysAside_1 : ttX12_laysAside_1.all (g_cE 12 false cX12_laysAside) = true := by decide +kernel
set_option maxRecDepth 100000 in
theorem tkX12_laysAside_2 : ttX12_laysAside_2.all (g_cE 12 false cX12_laysAside) = true := by decide +kernel
set_option maxRecDepth 100000 in
theorem tkX12_laysAside_3 : ttX12_laysAside_3.all (g_cE 12 false cX12_laysAside) = true := by decide +kernel
set_option maxRecDepth 100000 in
theorem tkX12_laysAside_4 : ttX12_laysAside_4.all (g_cE 12 false cX12_laysAside) = true := by decide +kernel
set_option maxRecDepth 100000 in
theorem tkX12_laysAside_5 : ttX12_laysAside_5.all (g_cE 12 false cX12_laysAside) = true := by decide +kernel
set_option maxRecDepth 100000 in
theorem tkX12_laysAside_6 : ttX12_laysAside_6.all (g_cE 12 false cX12_laysAside) = true := by decide +kernel
set_option maxRecDepth 100000 in
theorem tkX12_laysAside_7 : ttX12_laysAside_7.all (g_cE 12 false cX12_laysAside) = true := by decide +kernel
set_option maxRecDepth 100000 in
theorem tkX12_laysAside_8 : ttX12_laysAside_8.all (g_cE 12 false cX12_laysAside) = true := by decide +kernel
set_option maxRecDepth 100000 in
theorem tkX12_laysAside_9 : ttX12_laysAside_9.all (g_cE 12 false cX12_laysAside) = true := by decide +kernel
set_option maxRecDepth 100000 in
theorem tkX12_laysAside_10 : ttX12_laysAside_10.all (g_cE 12 false cX12_laysAside) = true := by decide +kernel
set_option maxRecDepth 100000 in
theorem tkX12_laysAside_11 : ttX12_laysAside_11.all (g_cE 12 false cX12_laysAside) = true := by decide +kernel
set_option maxRecDepth 100000 in
theorem tkX12_laysAside_12 : ttX12_laysAside_12.all (g_cE 12 false cX12_laysAside) = true := by decide +kernel
theorem tkX12_laysAside : ttX12_laysAside.all (fun r => r.2.all (g_cE 12 false cX12_laysAside)) = true := by
  unfold ttX12_laysAside
  simp only [List.all_cons, List.all_nil, Bool.and_true, Bool.and_eq_true]
  exact ⟨tkX12_laysAside_0, tkX12_laysAside_1, tkX12_laysAside_2, tkX12_laysAside_3, tkX12_laysAside_4, tkX12_laysAside_5, tkX12_laysAside_6, tkX12_laysAside_7, tkX12_laysAside_8, tkX12_laysAside_9, tkX12_laysAside_10, tkX12_laysAside_11, tkX12_laysAside_12⟩
set_option maxRecDepth 100000 in
theorem tkX12_bringsBack_0 : ttX12_bringsBack_0.all (g_cE 12 false cX12_bringsBack) = true := by decide +kernel
set_option maxRecDepth 100000 in
theorem tkX12_bringsBack_1 : ttX12_bringsBack_1.all (g_cE 12 false cX12_bringsBack) = true := by decide +kernel
set_option maxRecDepth 100000 in
theorem tkX12_bringsBack_2 : ttX12_bringsBack_2.all (g_cE 12 false cX12_bringsBack) = true := by decide +kernel
set_option maxRecDepth 100000 in
theorem tkX12_bringsBack_3 : ttX12_bringsBack_3.all (g_cE 12 false cX12_bringsBack) = true := by decide +kernel
