section Prt16k
set_option maxRecDepth 100000 in
theorem tkX12_feeds : ttX12_feeds.all (fun r => r.2.all (g_cE 12 false cX12_feeds)) = true := g_cF_ll (by decide +kernel)
set_option maxRecDepth 100000 in
theorem tkX12_teaches : ttX12_teaches.all (fun r => r.2.all (g_cE 12 false cX12_teaches)) = true := g_cF_ll (by decide +kernel)
set_option maxRecDepth 100000 in
theorem tkX12_wardsGo : ttX12_wardsGo.all (fun r => r.2.all (g_cE 12 false cX12_wardsGo)) = true := g_cF_ll (by decide +kernel)
set_option maxRecDepth 100000 in
theorem tkX12_breaks : ttX12_breaks.all (fun r => r.2.all (g_cE 12 false cX12_breaks)) = true := g_cF_ll (by decide +kernel)
set_option maxRecDepth 100000 in
theorem tkX12_whistle : ttX12_whistle.all (fun r => r.2.all (g_cE 12 false cX12_whistle)) = true := g_cF_ll (by decide +kernel)
set_option maxRecDepth 100000 in
theorem tkX12_nursesGo : ttX12_nursesGo.all (fun r => r.2.all (g_cE 12 false cX12_nursesGo)) = true := g_cF_ll (by decide +kernel)
set_option maxRecDepth 100000 in
theorem tkX12_judges : ttX12_judges.all (fun r => r.2.all (g_cE 12 false cX12_judges)) = true := g_cF_ll (by decide +kernel)
set_option maxRecDepth 100000 in
theorem tkX12_go : ttX12_go.all (fun r => r.2.all (g_cE 12 false cX12_go)) = true := g_cF_ll (by decide +kernel)
set_option maxRecDepth 100000 in
theorem tkX12_months : ttX12_months.all (fun r => r.2.all (g_cE 12 false cX12_months)) = true := g_cF_ll (by decide +kernel)
set_option maxRecDepth 100000 in
theorem tkX12_laysAside_0 : ttX12_laysAside_0.all (g_cE 12 false cX12_laysAside) = true := g_cF_l (by decide +kernel)
set_option maxRecDepth 100000 in
theorem tkX12_laysAside_1 : ttX12_laysAside_1.all (g_cE 12 false cX12_laysAside) = true := g_cF_l (by decide +kernel)
set_option maxRecDepth 100000 in
theorem tkX12_laysAside_2 : ttX12_laysAside_2.all (g_cE 12 false cX12_laysAside) = true := g_cF_l (by decide +kernel)
set_option maxRecDepth 100000 in
theorem tkX12_laysAside_3 : ttX12_laysAside_3.all (g_cE 12 false cX12_laysAside) = true := g_cF_l (by decide +kernel)
set_option maxRecDepth 100000 in
theorem tkX12_laysAside_4 : ttX12_laysAside_4.all (g_cE 12 false cX12_laysAside) = true := g_cF_l (by decide +kernel)
set_option maxRecDepth 100000 in
theorem tkX12_laysAside_5 : ttX12_laysAside_5.all (g_cE 12 false cX12_laysAside) = true := g_cF_l (by decide +kernel)
set_option maxRecDepth 100000 in
theorem tkX12_laysAside_6 : ttX12_laysAside_6.all (g_cE 12 false cX12_laysAside) = true := g_cF_l (by decide +kernel)
set_option maxRecDepth 100000 in
theorem tkX12_laysAside_7 : ttX12_laysAside_7.all (g_cE 12 false cX12_laysAside) = true := g_cF_l (by decide +kernel)
set_option maxRecDepth 100000 in
theorem tkX12_laysAside_8 : ttX12_laysAside_8.all (g_cE 12 false cX12_laysAside) = true := g_cF_l (by decide +kernel)
set_option maxRecDepth 100000 in
theorem tkX12_laysAside_9 : ttX12_laysAside_9.all (g_cE 12 false cX12_laysAside) = true := g_cF_l (by decide +kernel)
set_option maxRecDepth 100000 in
theorem tkX12_laysAside_10 : ttX12_laysAside_10.all (g_cE 12 false cX12_laysAside) = true := g_cF_l (by decide +kernel)
set_option maxRecDepth 100000 in
theorem tkX12_laysAside_11 : ttX12_laysAside_11.all (g_cE 12 false cX12_laysAside) = true := g_cF_l (by decide +kernel)
set_option maxRecDepth 100000 in
theorem tkX12_laysAside_12 : ttX12_laysAside_12.all (g_cE 12 false cX12_laysAside) = true := g_cF_l (by decide +kernel)
theorem tkX12_laysAside : ttX12_laysAside.all (fun r => r.2.all (g_cE 12 false cX12_laysAside)) = true := by
  unfold ttX12_laysAside
  simp only [List.all_cons, List.all_nil, Bool.and_true, Bool.and_eq_true]
  exact ⟨tkX12_laysAside_0, tkX12_laysAside_1, tkX12_laysAside_2, tkX12_laysAside_3, tkX12_laysAside_4, tkX12_laysAside_5, tkX12_laysAside_6, tkX12_laysAside_7, tkX12_laysAside_8, tkX12_laysAside_9, tkX12_laysAside_10, tkX12_laysAside_11, tkX12_laysAside_12⟩
set_option maxRecDepth 100000 in
theorem tkX12_bringsBack_0 : ttX12_bringsBack_0.all (g_cE 12 false cX12_bringsBack) = true := g_cF_l (by decide +kernel)
set_option maxRecDepth 100000 in
theorem tkX12_bringsBack_1 : ttX12_bringsBack_1.all (g_cE 12 false cX12_bringsBack) = true := g_cF_l (by decide +kernel)
set_option maxRecDepth 100000 in
theorem tkX12_bringsBack_2 : ttX12_bringsBack_2.all (g_cE 12 false cX12_bringsBack) = true := g_cF_l (by decide +kernel)
set_option maxRecDepth 100000 in
theorem tkX12_bringsBack_3 : ttX12_bringsBack_3.all (g_cE 12 false cX12_bringsBack) = true := g_cF_l (by decide +kernel)
set_option maxRecDepth 100000 in
theorem tkX12_bringsBack_4 : ttX12_bringsBack_4.all (g_cE 12 false cX12_bringsBack) = true := g_cF_l (by decide +kernel)
set_option maxRecDepth 100000 in
theorem tkX12_bringsBack_5 : ttX12_bringsBack_5.all (g_cE 12 false cX12_bringsBack) = true := g_cF_l (by decide +kernel)
set_option maxRecDepth 100000 in
theorem tkX12_bringsBack_6 : ttX12_bringsBack_6.all (g_cE 12 false cX12_bringsBack) = true := g_cF_l (by decide +kernel)
set_option maxRecDepth 100000 in
theorem tkX12_bringsBack_7 : ttX12_bringsBack_7.all (g_cE 12 false cX12_bringsBack) = true := g_cF_l (by decide +kernel)
set_option maxRecDepth 100000 in
theorem tkX12_bringsBack_8 : ttX12_bringsBack_8.all (g_cE 12 false cX12_bringsBack) = true := g_cF_l (by decide +kernel)
set_option maxRecDepth 100000 in
theorem tkX12_bringsBack_9 : ttX12_bringsBack_9.all (g_cE 12 false cX12_bringsBack) = true := g_cF_l (by decide +kernel)
set_option maxRecDepth 100000 in
theorem tkX12_bringsBack_10 : ttX12_bringsBack_10.all (g_cE 12 false cX12_bringsBack) = true := g_cF_l (by decide +kernel)
set_option maxRecDepth 100000 in
theorem tkX12_bringsBack_11 : ttX12_bringsBack_11.all (g_cE 12 false cX12_bringsBack) = true := g_cF_l (by decide +kernel)
set_option maxRecDepth 100000 in
theorem tkX12_bringsBack_12 : ttX12_bringsBack_12.all (g_cE 12 false cX12_bringsBack) = true := g_cF_l (by decide +kernel)
set_option maxRecDepth 100000 in
theorem tkX12_bringsBack_13 : ttX12_bringsBack_13.all (g_cE 12 false cX12_bringsBack) = true := g_cF_l (by decide +kernel)
set_option maxRecDepth 100000 in
theorem tkX12_bringsBack_14 : ttX12_bringsBack_14.all (g_cE 12 false cX12_bringsBack) = true := g_cF_l (by decide +kernel)
theorem tkX12_bringsBack : ttX12_bringsBack.all (fun r => r.2.all (g_cE 12 false cX12_bringsBack)) = true := by
  unfold ttX12_bringsBack
  simp only [List.all_cons, List.all_nil, Bool.and_true, Bool.and_eq_true]
  exact ⟨tkX12_bringsBack_0, tkX12_bringsBack_1, tkX12_bringsBack_2, tkX12_bringsBack_3, tkX12_bringsBack_4, tkX12_bringsBack_5, tkX12_bringsBack_6, tkX12_bringsBack_7, tkX12_bringsBack_8, tkX12_bringsBack_9, tkX12_bringsBack_10, tkX12_bringsBack_11, tkX12_bringsBack_12, tkX12_bringsBack_13, tkX12_bringsBack_14⟩
set_option maxRecDepth 100000 in
theorem tkX12_tried : ttX12_tried.all (fun r => r.2.all (g_cE 12 false cX12_tried)) = true := g_cF_ll (by decide +kernel)
end Prt16k
section Prt16l
set_option maxRecDepth 100000 in
theorem tkX12_orLess : ttX12_orLess.all (fun r => r.2.all (g_cE 12 false cX12_orLess)) = true := g_cF_ll (by decide +kernel)
set_option maxRecDepth 100000 in
theorem tkX12_gustIs : ttX12_gustIs.all (fun r => r.2.all (g_cE 12 false cX12_gustIs)) = true := g_cF_ll (by decide +kernel)
set_option maxRecDepth 100000 in
theorem tkX12_setIn : ttX12_setIn.all (fun r => r.2.all (g_cE 12 false cX12_setIn)) = true := g_cF_ll (by decide +kernel)
set_option maxRecDepth 100000 in
theorem tkX12_brokenIn : ttX12_brokenIn.all (fun r => r.2.all (g_cE 12 false cX12_brokenIn)) = true := g_cF_ll (by decide +kernel)
set_option maxRecDepth 100000 in
theorem tkX12_wardIs : ttX12_wardIs.all (fun r => r.2.all (g_cE 12 false cX12_wardIs)) = true := g_cF_ll (by decide +kernel)
set_option maxRecDepth 100000 in
theorem tkX12_nurseIs : ttX12_nurseIs.all (fun r => r.2.all (g_cE 12 false cX12_nurseIs)) = true := g_cF_ll (by decide +kernel)
set_option maxRecDepth 100000 in
theorem tkX12_quarrel : ttX12_quarrel.all (fun r => r.2.all (g_cE 12 false cX12_quarrel)) = true := g_cF_ll (by decide +kernel)
set_option maxRecDepth 100000 in
theorem tkX12_toldGusts : ttX12_toldGusts.all (fun r => r.2.all (g_cE 12 false cX12_toldGusts)) = true := g_cF_ll (by decide +kernel)
set_option maxRecDepth 100000 in
theorem tkX12_areGusts : ttX12_areGusts.all (fun r => r.2.all (g_cE 12 false cX12_areGusts)) = true := g_cF_ll (by decide +kernel)
set_option maxRecDepth 100000 in
theorem tkX12_takesSome : ttX12_takesSome.all (fun r => r.2.all (g_cE 12 false cX12_takesSome)) = true := g_cF_ll (by decide +kernel)
set_option maxRecDepth 100000 in
theorem tkX12_placeIn : ttX12_placeIn.all (fun r => r.2.all (g_cE 12 false cX12_placeIn)) = true := g_cF_ll (by decide +kernel)
set_option maxRecDepth 100000 in
theorem tkX12_powerOf : ttX12_powerOf.all (fun r => r.2.all (g_cE 12 false cX12_powerOf)) = true := g_cF_ll (by decide +kernel)
set_option maxRecDepth 100000 in
theorem tkX12_opensRow : ttX12_opensRow.all (fun r => r.2.all (g_cE 12 false cX12_opensRow)) = true := g_cF_ll (by decide +kernel)
set_option maxRecDepth 100000 in
theorem tkX12_keepsRow : ttX12_keepsRow.all (fun r => r.2.all (g_cE 12 false cX12_keepsRow)) = true := g_cF_ll (by decide +kernel)
set_option maxRecDepth 100000 in
theorem tkX12_takesPlaces : ttX12_takesPlaces.all (fun r => r.2.all (g_cE 12 false cX12_takesPlaces)) = true := g_cF_ll (by decide +kernel)
set_option maxRecDepth 100000 in
theorem tkX12_isRoomFor : ttX12_isRoomFor.all (fun r => r.2.all (g_cE 12 false cX12_isRoomFor)) = true := g_cF_ll (by decide +kernel)
set_option maxRecDepth 100000 in
theorem tkX12_twosIn : ttX12_twosIn.all (fun r => r.2.all (g_cE 12 false cX12_twosIn)) = true := g_cF_ll (by decide +kernel)
set_option maxRecDepth 100000 in
theorem tkX12_housed : ttX12_housed.all (fun r => r.2.all (g_cE 12 false cX12_housed)) = true := g_cF_ll (by decide +kernel)
set_option maxRecDepth 100000 in
theorem tkX12_wind : ttX12_wind.all (fun r => r.2.all (g_cE 12 false cX12_wind)) = true := g_cF_ll (by decide +kernel)
set_option maxRecDepth 100000 in
theorem tkX12_canGo : ttX12_canGo.all (fun r => r.2.all (g_cE 12 false cX12_canGo)) = true := g_cF_ll (by decide +kernel)
set_option maxRecDepth 100000 in
theorem tkX12_canLeave_0 : ttX12_canLeave_0.all (g_cE 12 false cX12_canLeave) = true := g_cF_l (by decide +kernel)
set_option maxRecDepth 100000 in
theorem tkX12_canLeave_1 : ttX12_canLeave_1.all (g_cE 12 false cX12_canLeave) = true := g_cF_l (by decide +kernel)
set_option maxRecDepth 100000 in
theorem tkX12_canLeave_2 : ttX12_canLeave_2.all (g_cE 12 false cX12_canLeave) = true := g_cF_l (by decide +kernel)
set_option maxRecDepth 100000 in
theorem tkX12_canLeave_3 : ttX12_canLeave_3.all (g_cE 12 false cX12_canLeave) = true := g_cF_l (by decide +kernel)
set_option maxRecDepth 100000 in
theorem tkX12_canLeave_4 : ttX12_canLeave_4.all (g_cE 12 false cX12_canLeave) = true := g_cF_l (by decide +kernel)
set_option maxRecDepth 100000 in
theorem tkX12_canLeave_5 : ttX12_canLeave_5.all (g_cE 12 false cX12_canLeave) = true := g_cF_l (by decide +kernel)
set_option maxRecDepth 100000 in
theorem tkX12_canLeave_6 : ttX12_canLeave_6.all (g_cE 12 false cX12_canLeave) = true := g_cF_l (by decide +kernel)
set_option maxRecDepth 100000 in
theorem tkX12_canLeave_7 : ttX12_canLeave_7.all (g_cE 12 false cX12_canLeave) = true := g_cF_l (by decide +kernel)
set_option maxRecDepth 100000 in
theorem tkX12_canLeave_8 : ttX12_canLeave_8.all (g_cE 12 false cX12_canLeave) = true := g_cF_l (by decide +kernel)
set_option maxRecDepth 100000 in
theorem tkX12_canLeave_9 : ttX12_canLeave_9.all (g_cE 12 false cX12_canLeave) = true := g_cF_l (by decide +kernel)
set_option maxRecDepth 100000 in
theorem tkX12_canLeave_10 : ttX12_canLeave_10.all (g_cE 12 false cX12_canLeave) = true := g_cF_l (by decide +kernel)
set_option maxRecDepth 100000 in
theorem tkX12_canLeave_11 : ttX12_canLeave_11.all (g_cE 12 false cX12_canLeave) = true := g_cF_l (by decide +kernel)
theorem tkX12_canLeave : ttX12_canLeave.all (fun r => r.2.all (g_cE 12 false cX12_canLeave)) = true := by
  unfold ttX12_canLeave
  simp only [List.all_cons, List.all_nil, Bool.and_true, Bool.and_eq_true]
  exact ⟨tkX12_canLeave_0, tkX12_canLeave_1, tkX12_canLeave_2, tkX12_canLeave_3, tkX12_canLeave_4, tkX12_canLeave_5, tkX12_canLeave_6, tkX12_canLeave_7, tkX12_canLeave_8, tkX12_canLeave_9, tkX12_canLeave_10, tkX12_canLeave_11⟩
set_option maxRecDepth 100000 in
theorem tkX12_laysLeaving : ttX12_laysLeaving.all (fun r => r.2.all (g_cE 12 false cX12_laysLeaving)) = true := g_cF_ll (by decide +kernel)
set_option maxRecDepth 100000 in
theorem tkX12_leaving : ttX12_leaving.all (fun r => r.2.all (g_cE 12 false cX12_leaving)) = true := g_cF_ll (by decide +kernel)
set_option maxRecDepth 100000 in
theorem tkX12_letGo : ttX12_letGo.all (fun r => r.2.all (g_cE 12 false cX12_letGo)) = true := g_cF_ll (by decide +kernel)
set_option maxRecDepth 100000 in
theorem tkX12_home : ttX12_home.all (fun r => r.2.all (g_cE 12 false cX12_home)) = true := g_cF_ll (by decide +kernel)
set_option maxRecDepth 100000 in
theorem tkX12_homesFor : ttX12_homesFor.all (fun r => r.2.all (g_cE 12 false cX12_homesFor)) = true := g_cF_ll (by decide +kernel)
set_option maxRecDepth 100000 in
theorem tkX12_greaterPart : ttX12_greaterPart.all (fun r => r.2.all (g_cE 12 false cX12_greaterPart)) = true := g_cF_ll (by decide +kernel)
set_option maxRecDepth 100000 in
theorem tkX12_from : ttX12_from.all (fun r => r.2.all (g_cE 12 false cX12_from)) = true := g_cF_ll (by decide +kernel)
end Prt16l
section Prt16m
set_option maxRecDepth 100000 in
theorem tkX12_laysLessons_0 : ttX12_laysLessons_0.all (g_cE 12 false cX12_laysLessons) = true := g_cF_l (by decide +kernel)
set_option maxRecDepth 100000 in
theorem tkX12_laysLessons_1 : ttX12_laysLessons_1.all (g_cE 12 false cX12_laysLessons) = true := g_cF_l (by decide +kernel)
set_option maxRecDepth 100000 in
theorem tkX12_laysLessons_2 : ttX12_laysLessons_2.all (g_cE 12 false cX12_laysLessons) = true := g_cF_l (by decide +kernel)
set_option maxRecDepth 100000 in
theorem tkX12_laysLessons_3 : ttX12_laysLessons_3.all (g_cE 12 false cX12_laysLessons) = true := g_cF_l (by decide +kernel)
set_option maxRecDepth 100000 in
theorem tkX12_laysLessons_4 : ttX12_laysLessons_4.all (g_cE 12 false cX12_laysLessons) = true := g_cF_l (by decide +kernel)
set_option maxRecDepth 100000 in
theorem tkX12_laysLessons_5 : ttX12_laysLessons_5.all (g_cE 12 false cX12_laysLessons) = true := g_cF_l (by decide +kernel)
set_option maxRecDepth 100000 in
theorem tkX12_laysLessons_6 : ttX12_laysLessons_6.all (g_cE 12 false cX12_laysLessons) = true := g_cF_l (by decide +kernel)
set_option maxRecDepth 100000 in
theorem tkX12_laysLessons_7 : ttX12_laysLessons_7.all (g_cE 12 false cX12_laysLessons) = true := g_cF_l (by decide +kernel)
set_option maxRecDepth 100000 in
theorem tkX12_laysLessons_8 : ttX12_laysLessons_8.all (g_cE 12 false cX12_laysLessons) = true := g_cF_l (by decide +kernel)
set_option maxRecDepth 100000 in
theorem tkX12_laysLessons_9 : ttX12_laysLessons_9.all (g_cE 12 false cX12_laysLessons) = true := g_cF_l (by decide +kernel)
theorem tkX12_laysLessons : ttX12_laysLessons.all (fun r => r.2.all (g_cE 12 false cX12_laysLessons)) = true := by
  unfold ttX12_laysLessons
  simp only [List.all_cons, List.all_nil, Bool.and_true, Bool.and_eq_true]
  exact ⟨tkX12_laysLessons_0, tkX12_laysLessons_1, tkX12_laysLessons_2, tkX12_laysLessons_3, tkX12_laysLessons_4, tkX12_laysLessons_5, tkX12_laysLessons_6, tkX12_laysLessons_7, tkX12_laysLessons_8, tkX12_laysLessons_9⟩
set_option maxRecDepth 100000 in
theorem tkX12_taught : ttX12_taught.all (fun r => r.2.all (g_cE 12 false cX12_taught)) = true := g_cF_ll (by decide +kernel)
set_option maxRecDepth 100000 in
theorem tkX12_house : ttX12_house.all (fun r => r.2.all (g_cE 12 false cX12_house)) = true := g_cF_ll (by decide +kernel)
set_option maxRecDepth 100000 in
theorem tkX12_isHigher : ttX12_isHigher.all (fun r => r.2.all (g_cE 12 false cX12_isHigher)) = true := g_cF_ll (by decide +kernel)
set_option maxRecDepth 100000 in
theorem tkX12_isLiked : ttX12_isLiked.all (fun r => r.2.all (g_cE 12 false cX12_isLiked)) = true := g_cF_ll (by decide +kernel)
set_option maxRecDepth 100000 in
theorem tkX12_asksNext : ttX12_asksNext.all (fun r => r.2.all (g_cE 12 false cX12_asksNext)) = true := g_cF_ll (by decide +kernel)
set_option maxRecDepth 100000 in
theorem tkX12_isAnywhere : ttX12_isAnywhere.all (fun r => r.2.all (g_cE 12 false cX12_isAnywhere)) = true := g_cF_ll (by decide +kernel)
set_option maxRecDepth 100000 in
theorem tkX12_laysPlaces : ttX12_laysPlaces.all (fun r => r.2.all (g_cE 12 false cX12_laysPlaces)) = true := g_cF_ll (by decide +kernel)
set_option maxRecDepth 100000 in
theorem tkX12_placed : ttX12_placed.all (fun r => r.2.all (g_cE 12 false cX12_placed)) = true := g_cF_ll (by decide +kernel)
set_option maxRecDepth 100000 in
theorem tkX12_fair_0 : ttX12_fair_0.all (g_cE 12 false cX12_fair) = true := g_cF_l (by decide +kernel)
set_option maxRecDepth 100000 in
theorem tkX12_fair_1 : ttX12_fair_1.all (g_cE 12 false cX12_fair) = true := g_cF_l (by decide +kernel)
set_option maxRecDepth 100000 in
theorem tkX12_fair_2 : ttX12_fair_2.all (g_cE 12 false cX12_fair) = true := g_cF_l (by decide +kernel)
set_option maxRecDepth 100000 in
theorem tkX12_fair_3 : ttX12_fair_3.all (g_cE 12 false cX12_fair) = true := g_cF_l (by decide +kernel)
set_option maxRecDepth 100000 in
theorem tkX12_fair_4 : ttX12_fair_4.all (g_cE 12 false cX12_fair) = true := g_cF_l (by decide +kernel)
set_option maxRecDepth 100000 in
theorem tkX12_fair_5 : ttX12_fair_5.all (g_cE 12 false cX12_fair) = true := g_cF_l (by decide +kernel)
set_option maxRecDepth 100000 in
theorem tkX12_fair_6 : ttX12_fair_6.all (g_cE 12 false cX12_fair) = true := g_cF_l (by decide +kernel)
set_option maxRecDepth 100000 in
theorem tkX12_fair_7 : ttX12_fair_7.all (g_cE 12 false cX12_fair) = true := g_cF_l (by decide +kernel)
set_option maxRecDepth 100000 in
theorem tkX12_fair_8 : ttX12_fair_8.all (g_cE 12 false cX12_fair) = true := g_cF_l (by decide +kernel)
set_option maxRecDepth 100000 in
theorem tkX12_fair_9 : ttX12_fair_9.all (g_cE 12 false cX12_fair) = true := g_cF_l (by decide +kernel)
set_option maxRecDepth 100000 in
theorem tkX12_fair_10 : ttX12_fair_10.all (g_cE 12 false cX12_fair) = true := g_cF_l (by decide +kernel)
theorem tkX12_fair : ttX12_fair.all (fun r => r.2.all (g_cE 12 false cX12_fair)) = true := by
  unfold ttX12_fair
  simp only [List.all_cons, List.all_nil, Bool.and_true, Bool.and_eq_true]
  exact ⟨tkX12_fair_0, tkX12_fair_1, tkX12_fair_2, tkX12_fair_3, tkX12_fair_4, tkX12_fair_5, tkX12_fair_6, tkX12_fair_7, tkX12_fair_8, tkX12_fair_9, tkX12_fair_10⟩
set_option maxRecDepth 100000 in
theorem tkX12_lower : ttX12_lower.all (fun r => r.2.all (g_cE 12 false cX12_lower)) = true := g_cF_ll (by decide +kernel)
set_option maxRecDepth 100000 in
theorem tkX12_higher : ttX12_higher.all (fun r => r.2.all (g_cE 12 false cX12_higher)) = true := g_cF_ll (by decide +kernel)
set_option maxRecDepth 100000 in
theorem tkX12_hourOf : ttX12_hourOf.all (fun r => r.2.all (g_cE 12 false cX12_hourOf)) = true := g_cF_ll (by decide +kernel)
set_option maxRecDepth 100000 in
theorem tkX12_laysAhead : ttX12_laysAhead.all (fun r => r.2.all (g_cE 12 false cX12_laysAhead)) = true := g_cF_ll (by decide +kernel)
set_option maxRecDepth 100000 in
theorem tkX12_laysBehind : ttX12_laysBehind.all (fun r => r.2.all (g_cE 12 false cX12_laysBehind)) = true := g_cF_ll (by decide +kernel)
set_option maxRecDepth 100000 in
theorem tkX12_escaped_0 : ttX12_escaped_0.all (g_cE 12 false cX12_escaped) = true := g_cF_l (by decide +kernel)
set_option maxRecDepth 100000 in
theorem tkX12_escaped_1 : ttX12_escaped_1.all (g_cE 12 false cX12_escaped) = true := g_cF_l (by decide +kernel)
set_option maxRecDepth 100000 in
theorem tkX12_escaped_2 : ttX12_escaped_2.all (g_cE 12 false cX12_escaped) = true := g_cF_l (by decide +kernel)
set_option maxRecDepth 100000 in
theorem tkX12_escaped_3 : ttX12_escaped_3.all (g_cE 12 false cX12_escaped) = true := g_cF_l (by decide +kernel)
end Prt16m
section Prt16n
set_option maxRecDepth 100000 in
theorem tkX12_escaped_4 : ttX12_escaped_4.all (g_cE 12 false cX12_escaped) = true := g_cF_l (by decide +kernel)
set_option maxRecDepth 100000 in
theorem tkX12_escaped_5 : ttX12_escaped_5.all (g_cE 12 false cX12_escaped) = true := g_cF_l (by decide +kernel)
set_option maxRecDepth 100000 in
theorem tkX12_escaped_6 : ttX12_escaped_6.all (g_cE 12 false cX12_escaped) = true := g_cF_l (by decide +kernel)
set_option maxRecDepth 100000 in
theorem tkX12_escaped_7 : ttX12_escaped_7.all (g_cE 12 false cX12_escaped) = true := g_cF_l (by decide +kernel)
set_option maxRecDepth 100000 in
theorem tkX12_escaped_8 : ttX12_escaped_8.all (g_cE 12 false cX12_escaped) = true := g_cF_l (by decide +kernel)
set_option maxRecDepth 100000 in
theorem tkX12_escaped_9 : ttX12_escaped_9.all (g_cE 12 false cX12_escaped) = true := g_cF_l (by decide +kernel)
set_option maxRecDepth 100000 in
theorem tkX12_escaped_10 : ttX12_escaped_10.all (g_cE 12 false cX12_escaped) = true := g_cF_l (by decide +kernel)
set_option maxRecDepth 100000 in
theorem tkX12_escaped_11 : ttX12_escaped_11.all (g_cE 12 false cX12_escaped) = true := g_cF_l (by decide +kernel)
set_option maxRecDepth 100000 in
theorem tkX12_escaped_12 : ttX12_escaped_12.all (g_cE 12 false cX12_escaped) = true := g_cF_l (by decide +kernel)
set_option maxRecDepth 100000 in
theorem tkX12_escaped_13 : ttX12_escaped_13.all (g_cE 12 false cX12_escaped) = true := g_cF_l (by decide +kernel)
set_option maxRecDepth 100000 in
theorem tkX12_escaped_14 : ttX12_escaped_14.all (g_cE 12 false cX12_escaped) = true := g_cF_l (by decide +kernel)
set_option maxRecDepth 100000 in
theorem tkX12_escaped_15 : ttX12_escaped_15.all (g_cE 12 false cX12_escaped) = true := g_cF_l (by decide +kernel)
set_option maxRecDepth 100000 in
theorem tkX12_escaped_16 : ttX12_escaped_16.all (g_cE 12 false cX12_escaped) = true := g_cF_l (by decide +kernel)
theorem tkX12_escaped : ttX12_escaped.all (fun r => r.2.all (g_cE 12 false cX12_escaped)) = true := by
  unfold ttX12_escaped
  simp only [List.all_cons, List.all_nil, Bool.and_true, Bool.and_eq_true]
  exact ⟨tkX12_escaped_0, tkX12_escaped_1, tkX12_escaped_2, tkX12_escaped_3, tkX12_escaped_4, tkX12_escaped_5, tkX12_escaped_6, tkX12_escaped_7, tkX12_escaped_8, tkX12_escaped_9, tkX12_escaped_10, tkX12_escaped_11, tkX12_escaped_12, tkX12_escaped_13, tkX12_escaped_14, tkX12_escaped_15, tkX12_escaped_16⟩
set_option maxRecDepth 100000 in
theorem tkX12_isOrder : ttX12_isOrder.all (fun r => r.2.all (g_cE 12 false cX12_isOrder)) = true := g_cF_ll (by decide +kernel)
set_option maxRecDepth 100000 in
theorem tkX12_toldNurses : ttX12_toldNurses.all (fun r => r.2.all (g_cE 12 false cX12_toldNurses)) = true := g_cF_ll (by decide +kernel)
set_option maxRecDepth 100000 in
theorem tkX12_nursed_0 : ttX12_nursed_0.all (g_cE 12 false cX12_nursed) = true := g_cF_l (by decide +kernel)
set_option maxRecDepth 100000 in
theorem tkX12_nursed_1 : ttX12_nursed_1.all (g_cE 12 false cX12_nursed) = true := g_cF_l (by decide +kernel)
set_option maxRecDepth 100000 in
theorem tkX12_nursed_2 : ttX12_nursed_2.all (g_cE 12 false cX12_nursed) = true := g_cF_l (by decide +kernel)
set_option maxRecDepth 100000 in
theorem tkX12_nursed_3 : ttX12_nursed_3.all (g_cE 12 false cX12_nursed) = true := g_cF_l (by decide +kernel)
set_option maxRecDepth 100000 in
theorem tkX12_nursed_4 : ttX12_nursed_4.all (g_cE 12 false cX12_nursed) = true := g_cF_l (by decide +kernel)
set_option maxRecDepth 100000 in
theorem tkX12_nursed_5 : ttX12_nursed_5.all (g_cE 12 false cX12_nursed) = true := g_cF_l (by decide +kernel)
set_option maxRecDepth 100000 in
theorem tkX12_nursed_6 : ttX12_nursed_6.all (g_cE 12 false cX12_nursed) = true := g_cF_l (by decide +kernel)
set_option maxRecDepth 100000 in
theorem tkX12_nursed_7 : ttX12_nursed_7.all (g_cE 12 false cX12_nursed) = true := g_cF_l (by decide +kernel)
set_option maxRecDepth 100000 in
theorem tkX12_nursed_8 : ttX12_nursed_8.all (g_cE 12 false cX12_nursed) = true := g_cF_l (by decide +kernel)
set_option maxRecDepth 100000 in
theorem tkX12_nursed_9 : ttX12_nursed_9.all (g_cE 12 false cX12_nursed) = true := g_cF_l (by decide +kernel)
theorem tkX12_nursed : ttX12_nursed.all (fun r => r.2.all (g_cE 12 false cX12_nursed)) = true := by
  unfold ttX12_nursed
  simp only [List.all_cons, List.all_nil, Bool.and_true, Bool.and_eq_true]
  exact ⟨tkX12_nursed_0, tkX12_nursed_1, tkX12_nursed_2, tkX12_nursed_3, tkX12_nursed_4, tkX12_nursed_5, tkX12_nursed_6, tkX12_nursed_7, tkX12_nursed_8, tkX12_nursed_9⟩
set_option maxRecDepth 100000 in
theorem tkX12_laysRing_0 : ttX12_laysRing_0.all (g_cE 12 false cX12_laysRing) = true := g_cF_l (by decide +kernel)
set_option maxRecDepth 100000 in
theorem tkX12_laysRing_1 : ttX12_laysRing_1.all (g_cE 12 false cX12_laysRing) = true := g_cF_l (by decide +kernel)
set_option maxRecDepth 100000 in
theorem tkX12_laysRing_2 : ttX12_laysRing_2.all (g_cE 12 false cX12_laysRing) = true := g_cF_l (by decide +kernel)
set_option maxRecDepth 100000 in
theorem tkX12_laysRing_3 : ttX12_laysRing_3.all (g_cE 12 false cX12_laysRing) = true := g_cF_l (by decide +kernel)
set_option maxRecDepth 100000 in
theorem tkX12_laysRing_4 : ttX12_laysRing_4.all (g_cE 12 false cX12_laysRing) = true := g_cF_l (by decide +kernel)
set_option maxRecDepth 100000 in
theorem tkX12_laysRing_5 : ttX12_laysRing_5.all (g_cE 12 false cX12_laysRing) = true := g_cF_l (by decide +kernel)
set_option maxRecDepth 100000 in
theorem tkX12_laysRing_6 : ttX12_laysRing_6.all (g_cE 12 false cX12_laysRing) = true := g_cF_l (by decide +kernel)
set_option maxRecDepth 100000 in
theorem tkX12_laysRing_7 : ttX12_laysRing_7.all (g_cE 12 false cX12_laysRing) = true := g_cF_l (by decide +kernel)
set_option maxRecDepth 100000 in
theorem tkX12_laysRing_8 : ttX12_laysRing_8.all (g_cE 12 false cX12_laysRing) = true := g_cF_l (by decide +kernel)
set_option maxRecDepth 100000 in
theorem tkX12_laysRing_9 : ttX12_laysRing_9.all (g_cE 12 false cX12_laysRing) = true := g_cF_l (by decide +kernel)
set_option maxRecDepth 100000 in
theorem tkX12_laysRing_10 : ttX12_laysRing_10.all (g_cE 12 false cX12_laysRing) = true := g_cF_l (by decide +kernel)
theorem tkX12_laysRing : ttX12_laysRing.all (fun r => r.2.all (g_cE 12 false cX12_laysRing)) = true := by
  unfold ttX12_laysRing
  simp only [List.all_cons, List.all_nil, Bool.and_true, Bool.and_eq_true]
  exact ⟨tkX12_laysRing_0, tkX12_laysRing_1, tkX12_laysRing_2, tkX12_laysRing_3, tkX12_laysRing_4, tkX12_laysRing_5, tkX12_laysRing_6, tkX12_laysRing_7, tkX12_laysRing_8, tkX12_laysRing_9, tkX12_laysRing_10⟩
set_option maxRecDepth 100000 in
theorem tkX12_round : ttX12_round.all (fun r => r.2.all (g_cE 12 false cX12_round)) = true := g_cF_ll (by decide +kernel)
end Prt16n
section Prt16o
set_option maxRecDepth 100000 in
theorem tkX12_partOf : ttX12_partOf.all (fun r => r.2.all (g_cE 12 false cX12_partOf)) = true := g_cF_ll (by decide +kernel)
set_option maxRecDepth 100000 in
theorem tkX12_added : ttX12_added.all (fun r => r.2.all (g_cE 12 false cX12_added)) = true := g_cF_ll (by decide +kernel)
set_option maxRecDepth 100000 in
theorem tkX12_seed : ttX12_seed.all (fun r => r.2.all (g_cE 12 false cX12_seed)) = true := g_cF_ll (by decide +kernel)
set_option maxRecDepth 100000 in
theorem tkX12_keep : ttX12_keep.all (fun r => r.2.all (g_cE 12 false cX12_keep)) = true := g_cF_ll (by decide +kernel)
set_option maxRecDepth 100000 in
theorem tkX12_undo : ttX12_undo.all (fun r => r.2.all (g_cE 12 false cX12_undo)) = true := g_cF_ll (by decide +kernel)
set_option maxRecDepth 100000 in
theorem tkX12_check : ttX12_check.all (fun r => r.2.all (g_cE 12 false cX12_check)) = true := g_cF_ll (by decide +kernel)
set_option maxRecDepth 100000 in
theorem tkX12_toldOf : ttX12_toldOf.all (fun r => r.2.all (g_cE 12 false cX12_toldOf)) = true := g_cF_ll (by decide +kernel)
set_option maxRecDepth 100000 in
theorem tkX12_count : ttX12_count.all (fun r => r.2.all (g_cE 12 false cX12_count)) = true := g_cF_ll (by decide +kernel)
set_option maxRecDepth 100000 in
theorem tkJ6_bitCount_0f7a4 : ttJ6_bitCount_0f7a4.all (fun r => r.2.all (g_cE 14 false cJ6_bitCount_0f7a4)) = true := g_cF_ll (by decide +kernel)
set_option maxRecDepth 100000 in
theorem tkJ7_fill_53178 : ttJ7_fill_53178.all (fun r => r.2.all (g_cE 16 false cJ7_fill_53178)) = true := g_cF_ll (by decide +kernel)
end Prt16o
