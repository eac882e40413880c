set_option maxRecDepth 100000 in
theorem tkX12_laysLessons_0 : ttX12_laysLessons_0.all (g_cE 12 false cX12_laysLessons) = true := by decide +kernel
set_option maxRecDepth 100000 in
theorem tkX12_laysLessons_1 : ttX12_laysLessons_1.all (g_cE 12 false cX12_laysLessons) = true := by decide +kernel
set_option maxRecDepth 100000 in
theorem tkX12_laysLessons_2 : ttX12_laysLessons_2.all (g_cE 12 false cX12_laysLessons) = true := by decide +kernel
set_option maxRecDepth 100000 in
theorem tkX12_laysLessons_3 : ttX12_laysLessons_3.all (g_cE 12 false cX12_laysLessons) = true := by decide +kernel
set_option maxRecDepth 100000 in
theorem tkX12_laysLessons_4 : ttX12_laysLessons_4.all (g_cE 12 false cX12_laysLessons) = true := by decide +kernel
set_option maxRecDepth 100000 in
theorem tkX12_laysLessons_5 : ttX12_laysLessons_5.all (g_cE 12 false cX12_laysLessons) = true := by decide +kernel
set_option maxRecDepth 100000 in
theorem tkX12_laysLessons_6 : ttX12_laysLessons_6.all (g_cE 12 false cX12_laysLessons) = true := by decide +kernel
set_option maxRecDepth 100000 in
theorem tkX12_laysLessons_7 : ttX12_laysLessons_7.all (g_cE 12 false cX12_laysLessons) = true := by decide +kernel
set_option maxRecDepth 100000 in
theorem tkX12_laysLessons_8 : ttX12_laysLessons_8.all (g_cE 12 false cX12_laysLessons) = true := by decide +kernel
set_option maxRecDepth 100000 in
theorem tkX12_laysLessons_9 : ttX12_laysLessons_9.all (g_cE 12 false cX12_laysLessons) = true := by decide +kernel
theorem tkX12_laysLessons : ttX12_laysLessons.all (fun r => r.2.all (g_cE 12 false cX12_laysLessons)) = true := by
  unfold ttX12_laysLessons
  simp only [List.all_cons, List.all_nil, Bool.and_true, Bool.and_eq_true]
  exact ⟨tkX12_laysLessons_0, tkX12_laysLessons_1, tkX12_laysLessons_2, tkX12_laysLessons_3, tkX12_laysLessons_4, tkX12_laysLessons_5, tkX12_laysLessons_6, tkX12_laysLessons_7, tkX12_laysLessons_8, tkX12_laysLessons_9⟩
set_option maxRecDepth 100000 in
theorem tkX12_taught : ttX12_taught.all (fun r => r.2.all (g_cE 12 false cX12_taught)) = true := by decide +kernel
set_option maxRecDepth 100000 in
theorem tkX12_house : ttX12_house.all (fun r => r.2.all (g_cE 12 false cX12_house)) = true := by decide +kernel
set_option maxRecDepth 100000 in
theorem tkX12_isHigher : ttX12_isHigher.all (fun r => r.2.all (g_cE 12 false cX12_isHigher)) = true := by decide +kernel
set_option maxRecDepth 100000 in
theorem tkX12_isLiked : ttX12_isLiked.all (fun r => r.2.all (g_cE 12 false cX12_isLiked)) = true := by decide +kernel
set_option maxRecDepth 100000 in
theorem tkX12_asksNext : ttX12_asksNext.all (fun r => r.2.all (g_cE 12 false cX12_asksNext)) = true := by decide +kernel
set_option maxRecDepth 100000 in
theorem tkX12_isAnywhere : ttX12_isAnywhere.all (fun r => r.2.all (g_cE 12 false cX12_isAnywhere)) = true := by decide +kernel
set_option maxRecDepth 100000 in
theorem tkX12_laysPlaces : ttX12_laysPlaces.all (fun r => r.2.all (g_cE 12 false cX12_laysPlaces)) = true := by decide +kernel
set_option maxRecDepth 100000 in
theorem tkX12_placed : ttX12_placed.all (fun r => r.2.all (g_cE 12 false cX12_placed)) = true := by decide +kernel
set_option maxRecDepth 100000 in
theorem tkX12_fair_0 : ttX12_fair_0.all (g_cE 12 false cX12_fair) = true := by decide +kernel
set_option maxRecDepth 100000 in
theorem tkX12_fair_1 : ttX12_fair_1.all (g_cE 12 false cX12_fair) = true := by decide +kernel
set_option maxRecDepth 100000 in
theorem tkX12_fair_2 : ttX12_fair_2.all (g_cE 12 false cX12_fair) = true := by decide +kernel
set_option maxRecDepth 100000 in
theorem tkX12_fair_3 : ttX12_fair_3.all (g_cE 12 false cX12_fair) = true := by decide +kernel
set_option maxRecDepth 100000 in
theorem tkX12_fair_4 : ttX12_fair_4.all (g_cE 12 false cX12_fair) = true := by decide +kernel
set_option maxRecDepth 100000 in
theorem tkX12_fair_5 : ttX12_fair_5.all (g_cE 12 false cX12_fair) = true := by decide +kernel
set_option maxRecDepth 100000 in
theorem tkX12_fair_6 : ttX12_fair_6.all (g_cE 12 false cX12_fair) = true := by decide +kernel
set_option maxRecDepth 100000 in
theorem tkX12_fair_7 : ttX12_fair_7.all (g_cE 12 false cX12_fair) = true := by decide +kernel
set_option maxRecDepth 100000 in
theorem tkX12_fair_8 : ttX12_fair_8.all (g_cE 12 false cX12_fair) = true := by decide +kernel
set_option maxRecDepth 100000 in
theorem tkX12_fair_9 : ttX12_fair_9.all (g_cE 12 false cX12_fair) = true := by decide +kernel
set_option maxRecDepth 100000 in
theorem tkX12_fair_10 : ttX12_fair_10.all (g_cE 12 false cX12_fair) = true := by decide +kernel
theorem tkX12_fair : ttX12_fair.all (fun r => r.2.all (g_cE 12 false cX12_fair)) = true := by
  unfold ttX12_fair
  simp only [List.all_cons, List.all_nil, Bool.and_true, Bool.and_eq_true]
  exact ⟨tkX12_fair_0, tkX12_fair_1, tkX12_fair_2, tkX12_fair_3, tkX12_fair_4, tkX12_fair_5, tkX12_fair_6, tkX12_fair_7, tkX12_fair_8, tkX12_fair_9, tkX12_fair_10⟩
set_option maxRecDepth 100000 in
theorem tkX12_lower : ttX12_lower.all (fun r => r.2.all (g_cE 12 false cX12_lower)) = true := by decide +kernel
set_option maxRecDepth 100000 in
theorem tkX12_higher : ttX12_higher.all (fun r => r.2.all (g_cE 12 false cX12_higher)) = true := by decide +kernel
set_option maxRecDepth 100000 in
theorem tkX12_hourOf : ttX12_hourOf.all (fun r => r.2.all (g_cE 12 false cX12_hourOf)) = true := by decide +kernel
set_option maxRecDepth 100000 in
theorem tkX12_laysAhead : ttX12_laysAhead.all (fun r => r.2.all (g_cE 12 false cX12_laysAhead)) = true := by decide +kernel
set_option maxRecDepth 100000 in
theorem tkX12_laysBehind : ttX12_laysBehind.all (fun r => r.2.all (g_cE 12 false cX12_laysBehind)) = true := by decide +kernel
set_option maxRecDepth 100000 in
theorem tkX12_escaped_0 : ttX12_escaped_0.all (g_cE 12 false cX12_escaped) = true := by decide +kernel
set_option maxRecDepth 100000 in
theorem tkX12_escaped_1 : ttX12_escaped_1.all (g_cE 12 false cX12_escaped) = true := by decide +kernel
set_option maxRecDepth 100000 in
theorem tkX12_escaped_2 : ttX12_escaped_2.all (g_cE 12 false cX12_escaped) = true := by decide +kernel
set_option maxRecDepth 100000 in
theorem tkX12_escaped_3 : ttX12_escaped_3.all (g_cE 12 false cX12_escaped) = true := by decide +kernel
