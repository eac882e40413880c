set_option maxRecDepth 100000 in
theorem tkX12_orLess : ttX12_orLess.all (fun r => r.2.all (g_cE 12 false cX12_orLess)) = true := by decide +kernel
set_option maxRecDepth 100000 in
theorem tkX12_gustIs : ttX12_gustIs.all (fun r => r.2.all (g_cE 12 false cX12_gustIs)) = true := by decide +kernel
set_option maxRecDepth 100000 in
theorem tkX12_setIn : ttX12_setIn.all (fun r => r.2.all (g_cE 12 false cX12_setIn)) = true := by decide +kernel
set_option maxRecDepth 100000 in
theorem tkX12_brokenIn : ttX12_brokenIn.all (fun r => r.2.all (g_cE 12 false cX12_brokenIn)) = true := by decide +kernel
set_option maxRecDepth 100000 in
theorem tkX12_wardIs : ttX12_wardIs.all (fun r => r.2.all (g_cE 12 false cX12_wardIs)) = true := by decide +kernel
set_option maxRecDepth 100000 in
theorem tkX12_nurseIs : ttX12_nurseIs.all (fun r => r.2.all (g_cE 12 false cX12_nurseIs)) = true := by decide +kernel
set_option maxRecDepth 100000 in
theorem tkX12_quarrel : ttX12_quarrel.all (fun r => r.2.all (g_cE 12 false cX12_quarrel)) = true := by decide +kernel
set_option maxRecDepth 100000 in
theorem tkX12_toldGusts : ttX12_toldGusts.all (fun r => r.2.all (g_cE 12 false cX12_toldGusts)) = true := by decide +kernel
set_option maxRecDepth 100000 in
theorem tkX12_areGusts : ttX12_areGusts.all (fun r => r.2.all (g_cE 12 false cX12_areGusts)) = true := by decide +kernel
set_option maxRecDepth 100000 in
theorem tkX12_takesSome : ttX12_takesSome.all (fun r => r.2.all (g_cE 12 false cX12_takesSome)) = true := by decide +kernel
set_option maxRecDepth 100000 in
theorem tkX12_placeIn : ttX12_placeIn.all (fun r => r.2.all (g_cE 12 false cX12_placeIn)) = true := by decide +kernel
set_option maxRecDepth 100000 in
theorem tkX12_powerOf : ttX12_powerOf.all (fun r => r.2.all (g_cE 12 false cX12_powerOf)) = true := by decide +kernel
set_option maxRecDepth 100000 in
theorem tkX12_opensRow : ttX12_opensRow.all (fun r => r.2.all (g_cE 12 false cX12_opensRow)) = true := by decide +kernel
set_option maxRecDepth 100000 in
theorem tkX12_keepsRow : ttX12_keepsRow.all (fun r => r.2.all (g_cE 12 false cX12_keepsRow)) = true := by decide +kernel
set_option maxRecDepth 100000 in
theorem tkX12_takesPlaces : ttX12_takesPlaces.all (fun r => r.2.all (g_cE 12 false cX12_takesPlaces)) = true := by decide +kernel
set_option maxRecDepth 100000 in
theorem tkX12_isRoomFor : ttX12_isRoomFor.all (fun r => r.2.all (g_cE 12 false cX12_isRoomFor)) = true := by decide +kernel
set_option maxRecDepth 100000 in
theorem tkX12_twosIn : ttX12_twosIn.all (fun r => r.2.all (g_cE 12 false cX12_twosIn)) = true := by decide +kernel
set_option maxRecDepth 100000 in
theorem tkX12_housed : ttX12_housed.all (fun r => r.2.all (g_cE 12 false cX12_housed)) = true := by decide +kernel
set_option maxRecDepth 100000 in
theorem tkX12_wind : ttX12_wind.all (fun r => r.2.all (g_cE 12 false cX12_wind)) = true := by decide +kernel
set_option maxRecDepth 100000 in
theorem tkX12_canGo : ttX12_canGo.all (fun r => r.2.all (g_cE 12 false cX12_canGo)) = true := by decide +kernel
set_option maxRecDepth 100000 in
theorem tkX12_canLeave_0 : ttX12_canLeave_0.all (g_cE 12 false cX12_canLeave) = true := by decide +kernel
set_option maxRecDepth 100000 in
theorem tkX12_canLeave_1 : ttX12_canLeave_1.all (g_cE 12 false cX12_canLeave) = true := by decide +kernel
set_option maxRecDepth 100000 in
theorem tkX12_canLeave_2 : ttX12_canLeave_2.all (g_cE 12 false cX12_canLeave) = true := by decide +kernel
set_option maxRecDepth 100000 in
theorem tkX12_canLeave_3 : ttX12_canLeave_3.all (g_cE 12 false cX12_canLeave) = true := by decide +kernel
set_option maxRecDepth 100000 in
theorem tkX12_canLeave_4 : ttX12_canLeave_4.all (g_cE 12 false cX12_canLeave) = true := by decide +kernel
set_option maxRecDepth 100000 in
theorem tkX12_canLeave_5 : ttX12_canLeave_5.all (g_cE 12 false cX12_canLeave) = true := by decide +kernel
set_option maxRecDepth 100000 in
theorem tkX12_canLeave_6 : ttX12_canLeave_6.all (g_cE 12 false cX12_canLeave) = true := by decide +kernel
set_option maxRecDepth 100000 in
theorem tkX12_canLeave_7 : ttX12_canLeave_7.all (g_cE 12 false cX12_canLeave) = true := by decide +kernel
set_option maxRecDepth 100000 in
theorem tkX12_canLeave_8 : ttX12_canLeave_8.all (g_cE 12 false cX12_canLeave) = true := by decide +kernel
set_option maxRecDepth 100000 in
theorem tkX12_canLeave_9 : ttX12_canLeave_9.all (g_cE 12 false cX12_canLeave) = true := by decide +kernel
set_option maxRecDepth 100000 in
theorem tkX12_canLeave_10 : ttX12_canLeave_10.all (g_cE 12 false cX12_canLeave) = true := by decide +kernel
set_option maxRecDepth 100000 in
theorem tkX12_canLeave_11 : ttX12_canLeave_11.all (g_cE 12 false cX12_canLeave) = true := by decide +kernel
theorem tkX12_canLeave : ttX12_canLeave.all (fun r => r.2.all (g_cE 12 false cX12_canLeave)) = true := by
  unfold ttX12_canLeave
  simp only [List.all_cons, List.all_nil, Bool.and_true, Bool.and_eq_true]
  exact ⟨tkX12_canLeave_0, tkX12_canLeave_1, tkX12_canLeave_2, tkX12_canLeave_3, tkX12_canLeave_4, tkX12_canLeave_5, tkX12_canLeave_6, tkX12_canLeave_7, tkX12_canLeave_8, tkX12_canLeave_9, tkX12_canLeave_10, tkX12_canLeave_11⟩
set_option maxRecDepth 100000 in
theorem tkX12_laysLeaving : ttX12_laysLeaving.all (fun r => r.2.all (g_cE 12 false cX12_laysLeaving)) = true := by decide +kernel
set_option maxRecDepth 100000 in
theorem tkX12_leaving : ttX12_leaving.all (fun r => r.2.all (g_cE 12 false cX12_leaving)) = true := by decide +kernel
set_option maxRecDepth 100000 in
theorem tkX12_letGo : ttX12_letGo.all (fun r => r.2.all (g_cE 12 false cX12_letGo)) = true := by decide +kernel
set_option maxRecDepth 100000 in
theorem tkX12_home : ttX12_home.all (fun r => r.2.all (g_cE 12 false cX12_home)) = true := by decide +kernel
set_option maxRecDepth 100000 in
theorem tkX12_homesFor : ttX12_homesFor.all (fun r => r.2.all (g_cE 12 false cX12_homesFor)) = true := by decide +kernel
set_option maxRecDepth 100000 in
theorem tkX12_greaterPart : ttX12_greaterPart.all (fun r => r.2.all (g_cE 12 false cX12_greaterPart)) = true := by decide +kernel
set_option maxRecDepth 100000 in
theorem tkX12_from : ttX12_from.all (fun r => r.2.all (g_cE 12 false cX12_from)) = true := by decide +kernel
