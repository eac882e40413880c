set_option maxRecDepth 100000 in
theorem tkX12_bringsBack_4 : ttX12_bringsBack_4.all (g_cE 12 false cX12_bringsBack) = true := by decide +kernel
set_option maxRecDepth 100000 in
theorem tkX12_bringsBack_5 : ttX12_bringsBack_5.all (g_cE 12 false cX12_bringsBack) = true := by decide +kernel
set_option maxRecDepth 100000 in
theorem tkX12_bringsBack_6 : ttX12_bringsBack_6.all (g_cE 12 false cX12_bringsBack) = true := by decide +kernel
set_option maxRecDepth 100000 in
theorem tkX12_bringsBack_7 : ttX12_bringsBack_7.all (g_cE 12 false cX12_bringsBack) = true := by decide +kernel
set_option maxRecDepth 100000 in
theorem tkX12_bringsBack_8 : ttX12_bringsBack_8.all (g_cE 12 false cX12_bringsBack) = true := by decide +kernel
set_option maxRecDepth 100000 in
theorem tkX12_bringsBack_9 : ttX12_bringsBack_9.all (g_cE 12 false cX12_bringsBack) = true := by decide +kernel
set_option maxRecDepth 100000 in
theorem tkX12_bringsBack_10 : ttX12_bringsBack_10.all (g_cE 12 false cX12_bringsBack) = true := by decide +kernel
set_option maxRecDepth 100000 in
theorem tkX12_bringsBack_11 : ttX12_bringsBack_11.all (g_cE 12 false cX12_bringsBack) = true := by decide +kernel
set_option maxRecDepth 100000 in
theorem tkX12_bringsBack_12 : ttX12_bringsBack_12.all (g_cE 12 false cX12_bringsBack) = true := by decide +kernel
set_option maxRecDepth 100000 in
theorem tkX12_bringsBack_13 : ttX12_bringsBack_13.all (g_cE 12 false cX12_bringsBack) = true := by decide +kernel
set_option maxRecDepth 100000 in
theorem tkX12_bringsBack_14 : ttX12_bringsBack_14.all (g_cE 12 false cX12_bringsBack) = true := by decide +kernel
theorem tkX12_bringsBack : ttX12_bringsBack.all (fun r => r.2.all (g_cE 12 false cX12_bringsBack)) = true := by
  unfold ttX12_bringsBack
  simp only [List.all_cons, List.all_nil, Bool.and_true, Bool.and_eq_true]
  exact ⟨tkX12_bringsBack_0, tkX12_bringsBack_1, tkX12_bringsBack_2, tkX12_bringsBack_3, tkX12_bringsBack_4, tkX12_bringsBack_5, tkX12_bringsBack_6, tkX12_bringsBack_7, tkX12_bringsBack_8, tkX12_bringsBack_9, tkX12_bringsBack_10, tkX12_bringsBack_11, tkX12_bringsBack_12, tkX12_bringsBack_13, tkX12_bringsBack_14⟩
set_option maxRecDepth 100000 in
theorem tkX12_tried : ttX12_tried.all (fun r => r.2.all (g_cE 12 false cX12_tried)) = true := by decide +kernel
set_option maxRecDepth 100000 in
theorem tkX12_orLess : ttX12_orLess.all (fun r => r.2.all (g_cE 12 false cX12_orLess)) = true := by decide +kernel
set_option maxRecDepth 100000 in
theorem tkX12_gustIs : ttX12_gustIs.all (fun r => r.2.all (g_cE 12 false cX12_gustIs)) = true := by decide +kernel
set_option maxRecDepth 100000 in
theorem tkX12_setIn : ttX12_setIn.all (fun r => r.2.all (g_cE 12 false cX12_setIn)) = true := by decide +kernel
set_option maxRecDepth 100000 in
theorem tkX12_brokenIn : ttX12_brokenIn.all (fun r => r.2.all (g_cE 12 false cX12_brokenIn)) = true := by decide +kernel
set_option maxRecDepth 100000 in
theorem tkX12_wardIs : ttX12_wardIs.all (fun r => r.2.all (g_cE 12 false cX12_wardIs)) = true := by decide +kernel
set_option maxRecDepth 100000 in
theorem tkX12_nurseIs : ttX12_nurseIs.all (fun r => r.2.all (g_cE 12 false cX12_nurseIs)) = true := by decide +kernel
set_option maxRecDepth 100000 in
theorem tkX12_quarrel : ttX12_quarrel.all (fun r => r.2.all (g_cE 12 false cX12_quarrel)) = true := by decide +kernel
set_option maxRecDepth 100000 in
theorem tkX12_toldGusts : ttX12_toldGusts.all (fun r => r.2.all (g_cE 12 false cX12_toldGusts)) = true := by decide +kernel
set_option maxRecDepth 100000 in
theorem tkX12_areGusts : ttX12_areGusts.all (fun r => r.2.all (g_cE 12 false cX12_areGusts)) = true := by decide +kernel
set_option maxRecDepth 100000 in
theorem tkX12_housed : ttX12_housed.all (fun r => r.2.all (g_cE 12 false cX12_housed)) = true := by decide +kernel
set_option maxRecDepth 100000 in
theorem tkX12_wind : ttX12_wind.all (fun r => r.2.all (g_cE 12 false cX12_wind)) = true := by decide +kernel
set_option maxRecDepth 100000 in
theorem tkX12_leaving : ttX12_leaving.all (fun r => r.2.all (g_cE 12 false cX12_leaving)) = true := by decide +kernel
set_option maxRecDepth 100000 in
theorem tkX12_letGo : ttX12_letGo.all (fun r => r.2.all (g_cE 12 false cX12_letGo)) = true := by decide +kernel
set_option maxRecDepth 100000 in
theorem tkX12_home : ttX12_home.all (fun r => r.2.all (g_cE 12 false cX12_home)) = true := by decide +kernel
set_option maxRecDepth 100000 in
theorem tkX12_from : ttX12_from.all (fun r => r.2.all (g_cE 12 false cX12_from)) = true := by decide +kernel
set_option maxRecDepth 100000 in
theorem tkX12_taught : ttX12_taught.all (fun r => r.2.all (g_cE 12 false cX12_taught)) = true := by decide +kernel
set_option maxRecDepth 100000 in
theorem tkX12_house : ttX12_house.all (fun r => r.2.all (g_cE 12 false cX12_house)) = true := by decide +kernel
set_option maxRecDepth 100000 in
theorem tkX12_placed : ttX12_placed.all (fun r => r.2.all (g_cE 12 false cX12_placed)) = true := by decide +kernel
set_option maxRecDepth 100000 in
theorem tkX12_fair_0 : ttX12_fair_0.all (g_cE 12 false cX12_fair) = true := by decide +kernel
set_option maxRecDepth 100000 in
theorem tkX12_fair_1 : ttX12_fair_1.all (g_cE 12 false cX12_fair) = true := by decide +kernel
set_option maxRecDepth 100000 in
theorem tkX12_fair_2 : ttX12_fair_2.all (g_cE 12 false cX12_fair) = true := by decide +kernel
set_option maxRecDepth 100000 in
theorem tkX12_fair_3 : ttX12_fair_3.all (g_cE 12 false cX12_fair) = true := by decide +kernel
set_option maxRecDepth 100000 in
theorem tkX12_fair_4 : ttX12_fair_4.all (g_cE 12 false cX12_fair) = true := by decide +kernel
set_option maxRecDepth 100000 in
theorem tkX12_fair_5 : ttX12_fair_5.all (g_cE 12 false cX12_fair) = true := by decide +kernel
set_option maxRecDepth 100000 in
theorem tkX12_fair_6 : ttX12_fair_6.all (g_cE 12 false cX12_fair) = true := by decide +kernel
set_option maxRecDepth 100000 in
theorem tkX12_fair_7 : ttX12_fair_7.all (g_cE 12 false cX12_fair) = true := by decide +kernel
set_option maxRecDepth 100000 in
theorem tkX12_fair_8 : ttX12_fair_8.all (g_cE 12 false cX12_fair) = true := by decide +kernel
