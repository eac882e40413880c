section Prt16f
set_option maxRecDepth 100000 in
theorem tkX8_at : ttX8_at.all (fun r => r.2.all (g_cE 8 false cX8_at)) = true := g_cF_ll (by decide +kernel)
set_option maxRecDepth 100000 in
theorem tkX8_empty : ttX8_empty.all (fun r => r.2.all (g_cE 8 false cX8_empty)) = true := g_cF_ll (by decide +kernel)
set_option maxRecDepth 100000 in
theorem tkX9_init : ttX9_init.all (fun r => r.2.all (g_cE 9 true cX9_init)) = true := g_cF_ll (by decide +kernel)
set_option maxRecDepth 100000 in
theorem tkX9_learnFrom : ttX9_learnFrom.all (fun r => r.2.all (g_cE 9 false cX9_learnFrom)) = true := g_cF_ll (by decide +kernel)
set_option maxRecDepth 100000 in
theorem tkX9_lessonAt : ttX9_lessonAt.all (fun r => r.2.all (g_cE 9 false cX9_lessonAt)) = true := g_cF_ll (by decide +kernel)
set_option maxRecDepth 100000 in
theorem tkX9_placeAfter : ttX9_placeAfter.all (fun r => r.2.all (g_cE 9 false cX9_placeAfter)) = true := g_cF_ll (by decide +kernel)
set_option maxRecDepth 100000 in
theorem tkX10_init : ttX10_init.all (fun r => r.2.all (g_cE 10 true cX10_init)) = true := g_cF_ll (by decide +kernel)
set_option maxRecDepth 100000 in
theorem tkX10_sendOff : ttX10_sendOff.all (fun r => r.2.all (g_cE 10 false cX10_sendOff)) = true := g_cF_ll (by decide +kernel)
set_option maxRecDepth 100000 in
theorem tkX10_windOf : ttX10_windOf.all (fun r => r.2.all (g_cE 10 false cX10_windOf)) = true := g_cF_ll (by decide +kernel)
set_option maxRecDepth 100000 in
theorem tkX10_sendFrom_0 : ttX10_sendFrom_0.all (g_cE 10 false cX10_sendFrom) = true := g_cF_l (by decide +kernel)
set_option maxRecDepth 100000 in
theorem tkX10_sendFrom_1 : ttX10_sendFrom_1.all (g_cE 10 false cX10_sendFrom) = true := g_cF_l (by decide +kernel)
set_option maxRecDepth 100000 in
theorem tkX10_sendFrom_2 : ttX10_sendFrom_2.all (g_cE 10 false cX10_sendFrom) = true := g_cF_l (by decide +kernel)
set_option maxRecDepth 100000 in
theorem tkX10_sendFrom_3 : ttX10_sendFrom_3.all (g_cE 10 false cX10_sendFrom) = true := g_cF_l (by decide +kernel)
set_option maxRecDepth 100000 in
theorem tkX10_sendFrom_4 : ttX10_sendFrom_4.all (g_cE 10 false cX10_sendFrom) = true := g_cF_l (by decide +kernel)
set_option maxRecDepth 100000 in
theorem tkX10_sendFrom_5 : ttX10_sendFrom_5.all (g_cE 10 false cX10_sendFrom) = true := g_cF_l (by decide +kernel)
set_option maxRecDepth 100000 in
theorem tkX10_sendFrom_6 : ttX10_sendFrom_6.all (g_cE 10 false cX10_sendFrom) = true := g_cF_l (by decide +kernel)
set_option maxRecDepth 100000 in
theorem tkX10_sendFrom_7 : ttX10_sendFrom_7.all (g_cE 10 false cX10_sendFrom) = true := g_cF_l (by decide +kernel)
set_option maxRecDepth 100000 in
theorem tkX10_sendFrom_8 : ttX10_sendFrom_8.all (g_cE 10 false cX10_sendFrom) = true := g_cF_l (by decide +kernel)
set_option maxRecDepth 100000 in
theorem tkX10_sendFrom_9 : ttX10_sendFrom_9.all (g_cE 10 false cX10_sendFrom) = true := g_cF_l (by decide +kernel)
set_option maxRecDepth 100000 in
theorem tkX10_sendFrom_10 : ttX10_sendFrom_10.all (g_cE 10 false cX10_sendFrom) = true := g_cF_l (by decide +kernel)
theorem tkX10_sendFrom : ttX10_sendFrom.all (fun r => r.2.all (g_cE 10 false cX10_sendFrom)) = true := by
  unfold ttX10_sendFrom
  simp only [List.all_cons, List.all_nil, Bool.and_true, Bool.and_eq_true]
  exact ⟨tkX10_sendFrom_0, tkX10_sendFrom_1, tkX10_sendFrom_2, tkX10_sendFrom_3, tkX10_sendFrom_4, tkX10_sendFrom_5, tkX10_sendFrom_6, tkX10_sendFrom_7, tkX10_sendFrom_8, tkX10_sendFrom_9, tkX10_sendFrom_10⟩
set_option maxRecDepth 100000 in
theorem tkX10_mayBeat : ttX10_mayBeat.all (fun r => r.2.all (g_cE 10 false cX10_mayBeat)) = true := g_cF_ll (by decide +kernel)
set_option maxRecDepth 100000 in
theorem tkX10_windOfGale : ttX10_windOfGale.all (fun r => r.2.all (g_cE 10 false cX10_windOfGale)) = true := g_cF_ll (by decide +kernel)
set_option maxRecDepth 100000 in
theorem tkX10_carries : ttX10_carries.all (fun r => r.2.all (g_cE 10 false cX10_carries)) = true := g_cF_ll (by decide +kernel)
set_option maxRecDepth 100000 in
theorem tkX11_init : ttX11_init.all (fun r => r.2.all (g_cE 11 true cX11_init)) = true := g_cF_ll (by decide +kernel)
set_option maxRecDepth 100000 in
theorem tkX11_gust : ttX11_gust.all (fun r => r.2.all (g_cE 11 false cX11_gust)) = true := g_cF_ll (by decide +kernel)
set_option maxRecDepth 100000 in
theorem tkX11_name : ttX11_name.all (fun r => r.2.all (g_cE 11 false cX11_name)) = true := g_cF_ll (by decide +kernel)
set_option maxRecDepth 100000 in
theorem tkX11_moves : ttX11_moves.all (fun r => r.2.all (g_cE 11 false cX11_moves)) = true := g_cF_ll (by decide +kernel)
set_option maxRecDepth 100000 in
theorem tkX11_habit : ttX11_habit.all (fun r => r.2.all (g_cE 11 false cX11_habit)) = true := g_cF_ll (by decide +kernel)
set_option maxRecDepth 100000 in
theorem tkX11_ward : ttX11_ward.all (fun r => r.2.all (g_cE 11 false cX11_ward)) = true := g_cF_ll (by decide +kernel)
set_option maxRecDepth 100000 in
theorem tkX11_nurse : ttX11_nurse.all (fun r => r.2.all (g_cE 11 false cX11_nurse)) = true := g_cF_ll (by decide +kernel)
set_option maxRecDepth 100000 in
theorem tkX11_needs : ttX11_needs.all (fun r => r.2.all (g_cE 11 false cX11_needs)) = true := g_cF_ll (by decide +kernel)
set_option maxRecDepth 100000 in
theorem tkX11_wind : ttX11_wind.all (fun r => r.2.all (g_cE 11 false cX11_wind)) = true := g_cF_ll (by decide +kernel)
set_option maxRecDepth 100000 in
theorem tkX11_home : ttX11_home.all (fun r => r.2.all (g_cE 11 false cX11_home)) = true := g_cF_ll (by decide +kernel)
set_option maxRecDepth 100000 in
theorem tkX11_house : ttX11_house.all (fun r => r.2.all (g_cE 11 false cX11_house)) = true := g_cF_ll (by decide +kernel)
set_option maxRecDepth 100000 in
theorem tkX11_seed : ttX11_seed.all (fun r => r.2.all (g_cE 11 false cX11_seed)) = true := g_cF_ll (by decide +kernel)
set_option maxRecDepth 100000 in
theorem tkX11_feed : ttX11_feed.all (fun r => r.2.all (g_cE 11 false cX11_feed)) = true := g_cF_ll (by decide +kernel)
set_option maxRecDepth 100000 in
theorem tkX11_law : ttX11_law.all (fun r => r.2.all (g_cE 11 false cX11_law)) = true := g_cF_ll (by decide +kernel)
set_option maxRecDepth 100000 in
theorem tkX11_rules : ttX11_rules.all (fun r => r.2.all (g_cE 11 false cX11_rules)) = true := g_cF_ll (by decide +kernel)
set_option maxRecDepth 100000 in
theorem tkX11_timetable : ttX11_timetable.all (fun r => r.2.all (g_cE 11 false cX11_timetable)) = true := g_cF_ll (by decide +kernel)
end Prt16f
section Prt16g
set_option maxRecDepth 100000 in
theorem tkX11_months : ttX11_months.all (fun r => r.2.all (g_cE 11 false cX11_months)) = true := g_cF_ll (by decide +kernel)
set_option maxRecDepth 100000 in
theorem tkX11_tried : ttX11_tried.all (fun r => r.2.all (g_cE 11 false cX11_tried)) = true := g_cF_ll (by decide +kernel)
set_option maxRecDepth 100000 in
theorem tkX11_gustIs : ttX11_gustIs.all (fun r => r.2.all (g_cE 11 false cX11_gustIs)) = true := g_cF_ll (by decide +kernel)
set_option maxRecDepth 100000 in
theorem tkX11_wardIs : ttX11_wardIs.all (fun r => r.2.all (g_cE 11 false cX11_wardIs)) = true := g_cF_ll (by decide +kernel)
set_option maxRecDepth 100000 in
theorem tkX11_nurseIs : ttX11_nurseIs.all (fun r => r.2.all (g_cE 11 false cX11_nurseIs)) = true := g_cF_ll (by decide +kernel)
set_option maxRecDepth 100000 in
theorem tkX11_quarrel : ttX11_quarrel.all (fun r => r.2.all (g_cE 11 false cX11_quarrel)) = true := g_cF_ll (by decide +kernel)
set_option maxRecDepth 100000 in
theorem tkX11_count : ttX11_count.all (fun r => r.2.all (g_cE 11 false cX11_count)) = true := g_cF_ll (by decide +kernel)
set_option maxRecDepth 100000 in
theorem tkX11_added : ttX11_added.all (fun r => r.2.all (g_cE 11 false cX11_added)) = true := g_cF_ll (by decide +kernel)
set_option maxRecDepth 100000 in
theorem tkX11_housed : ttX11_housed.all (fun r => r.2.all (g_cE 11 false cX11_housed)) = true := g_cF_ll (by decide +kernel)
set_option maxRecDepth 100000 in
theorem tkX11_leaving : ttX11_leaving.all (fun r => r.2.all (g_cE 11 false cX11_leaving)) = true := g_cF_ll (by decide +kernel)
set_option maxRecDepth 100000 in
theorem tkX11_letGo : ttX11_letGo.all (fun r => r.2.all (g_cE 11 false cX11_letGo)) = true := g_cF_ll (by decide +kernel)
set_option maxRecDepth 100000 in
theorem tkX11_from : ttX11_from.all (fun r => r.2.all (g_cE 11 false cX11_from)) = true := g_cF_ll (by decide +kernel)
set_option maxRecDepth 100000 in
theorem tkX11_taught : ttX11_taught.all (fun r => r.2.all (g_cE 11 false cX11_taught)) = true := g_cF_ll (by decide +kernel)
set_option maxRecDepth 100000 in
theorem tkX11_placed : ttX11_placed.all (fun r => r.2.all (g_cE 11 false cX11_placed)) = true := g_cF_ll (by decide +kernel)
set_option maxRecDepth 100000 in
theorem tkX11_fair : ttX11_fair.all (fun r => r.2.all (g_cE 11 false cX11_fair)) = true := g_cF_ll (by decide +kernel)
set_option maxRecDepth 100000 in
theorem tkX11_escaped : ttX11_escaped.all (fun r => r.2.all (g_cE 11 false cX11_escaped)) = true := g_cF_ll (by decide +kernel)
set_option maxRecDepth 100000 in
theorem tkX11_nursed : ttX11_nursed.all (fun r => r.2.all (g_cE 11 false cX11_nursed)) = true := g_cF_ll (by decide +kernel)
set_option maxRecDepth 100000 in
theorem tkX11_round : ttX11_round.all (fun r => r.2.all (g_cE 11 false cX11_round)) = true := g_cF_ll (by decide +kernel)
set_option maxRecDepth 100000 in
theorem tkX11_keep : ttX11_keep.all (fun r => r.2.all (g_cE 11 false cX11_keep)) = true := g_cF_ll (by decide +kernel)
set_option maxRecDepth 100000 in
theorem tkX11_undo : ttX11_undo.all (fun r => r.2.all (g_cE 11 false cX11_undo)) = true := g_cF_ll (by decide +kernel)
set_option maxRecDepth 100000 in
theorem tkX11_check : ttX11_check.all (fun r => r.2.all (g_cE 11 false cX11_check)) = true := g_cF_ll (by decide +kernel)
set_option maxRecDepth 100000 in
theorem tkX11_within : ttX11_within.all (fun r => r.2.all (g_cE 11 false cX11_within)) = true := g_cF_ll (by decide +kernel)
set_option maxRecDepth 100000 in
theorem tkX11_isIn : ttX11_isIn.all (fun r => r.2.all (g_cE 11 false cX11_isIn)) = true := g_cF_ll (by decide +kernel)
set_option maxRecDepth 100000 in
theorem tkX11_placeIn : ttX11_placeIn.all (fun r => r.2.all (g_cE 11 false cX11_placeIn)) = true := g_cF_ll (by decide +kernel)
set_option maxRecDepth 100000 in
theorem tkX11_chosen : ttX11_chosen.all (fun r => r.2.all (g_cE 11 false cX11_chosen)) = true := g_cF_ll (by decide +kernel)
set_option maxRecDepth 100000 in
theorem tkX11_wardAt : ttX11_wardAt.all (fun r => r.2.all (g_cE 11 false cX11_wardAt)) = true := g_cF_ll (by decide +kernel)
set_option maxRecDepth 100000 in
theorem tkX11_northward : ttX11_northward.all (fun r => r.2.all (g_cE 11 false cX11_northward)) = true := g_cF_ll (by decide +kernel)
set_option maxRecDepth 100000 in
theorem tkX11_homesLike : ttX11_homesLike.all (fun r => r.2.all (g_cE 11 false cX11_homesLike)) = true := g_cF_ll (by decide +kernel)
set_option maxRecDepth 100000 in
theorem tkX11_mostTelling : ttX11_mostTelling.all (fun r => r.2.all (g_cE 11 false cX11_mostTelling)) = true := g_cF_ll (by decide +kernel)
set_option maxRecDepth 100000 in
theorem tkX11_homesWith : ttX11_homesWith.all (fun r => r.2.all (g_cE 11 false cX11_homesWith)) = true := g_cF_ll (by decide +kernel)
set_option maxRecDepth 100000 in
theorem tkX11_sought : ttX11_sought.all (fun r => r.2.all (g_cE 11 false cX11_sought)) = true := g_cF_ll (by decide +kernel)
set_option maxRecDepth 100000 in
theorem tkX11_sightingsStand : ttX11_sightingsStand.all (fun r => r.2.all (g_cE 11 false cX11_sightingsStand)) = true := g_cF_ll (by decide +kernel)
set_option maxRecDepth 100000 in
theorem tkX11_sightingsAgree : ttX11_sightingsAgree.all (fun r => r.2.all (g_cE 11 false cX11_sightingsAgree)) = true := g_cF_ll (by decide +kernel)
set_option maxRecDepth 100000 in
theorem tkX12_init_0 : ttX12_init_0.all (g_cE 12 true cX12_init) = true := g_cF_l (by decide +kernel)
set_option maxRecDepth 100000 in
theorem tkX12_init_1 : ttX12_init_1.all (g_cE 12 true cX12_init) = true := g_cF_l (by decide +kernel)
set_option maxRecDepth 100000 in
theorem tkX12_init_2 : ttX12_init_2.all (g_cE 12 true cX12_init) = true := g_cF_l (by decide +kernel)
set_option maxRecDepth 100000 in
theorem tkX12_init_3 : ttX12_init_3.all (g_cE 12 true cX12_init) = true := g_cF_l (by decide +kernel)
set_option maxRecDepth 100000 in
theorem tkX12_init_4 : ttX12_init_4.all (g_cE 12 true cX12_init) = true := g_cF_l (by decide +kernel)
set_option maxRecDepth 100000 in
theorem tkX12_init_5 : ttX12_init_5.all (g_cE 12 true cX12_init) = true := g_cF_l (by decide +kernel)
set_option maxRecDepth 100000 in
theorem tkX12_init_6 : ttX12_init_6.all (g_cE 12 true cX12_init) = true := g_cF_l (by decide +kernel)
end Prt16g
section Prt16h
set_option maxRecDepth 100000 in
theorem tkX12_init_7 : ttX12_init_7.all (g_cE 12 true cX12_init) = true := g_cF_l (by decide +kernel)
set_option maxRecDepth 100000 in
theorem tkX12_init_8 : ttX12_init_8.all (g_cE 12 true cX12_init) = true := g_cF_l (by decide +kernel)
set_option maxRecDepth 100000 in
theorem tkX12_init_9 : ttX12_init_9.all (g_cE 12 true cX12_init) = true := g_cF_l (by decide +kernel)
set_option maxRecDepth 100000 in
theorem tkX12_init_10 : ttX12_init_10.all (g_cE 12 true cX12_init) = true := g_cF_l (by decide +kernel)
set_option maxRecDepth 100000 in
theorem tkX12_init_11 : ttX12_init_11.all (g_cE 12 true cX12_init) = true := g_cF_l (by decide +kernel)
set_option maxRecDepth 100000 in
theorem tkX12_init_12 : ttX12_init_12.all (g_cE 12 true cX12_init) = true := g_cF_l (by decide +kernel)
set_option maxRecDepth 100000 in
theorem tkX12_init_13 : ttX12_init_13.all (g_cE 12 true cX12_init) = true := g_cF_l (by decide +kernel)
set_option maxRecDepth 100000 in
theorem tkX12_init_14 : ttX12_init_14.all (g_cE 12 true cX12_init) = true := g_cF_l (by decide +kernel)
set_option maxRecDepth 100000 in
theorem tkX12_init_15 : ttX12_init_15.all (g_cE 12 true cX12_init) = true := g_cF_l (by decide +kernel)
set_option maxRecDepth 100000 in
theorem tkX12_init_16 : ttX12_init_16.all (g_cE 12 true cX12_init) = true := g_cF_l (by decide +kernel)
set_option maxRecDepth 100000 in
theorem tkX12_init_17 : ttX12_init_17.all (g_cE 12 true cX12_init) = true := g_cF_l (by decide +kernel)
set_option maxRecDepth 100000 in
theorem tkX12_init_18 : ttX12_init_18.all (g_cE 12 true cX12_init) = true := g_cF_l (by decide +kernel)
set_option maxRecDepth 100000 in
theorem tkX12_init_19 : ttX12_init_19.all (g_cE 12 true cX12_init) = true := g_cF_l (by decide +kernel)
set_option maxRecDepth 100000 in
theorem tkX12_init_20 : ttX12_init_20.all (g_cE 12 true cX12_init) = true := g_cF_l (by decide +kernel)
set_option maxRecDepth 100000 in
theorem tkX12_init_21 : ttX12_init_21.all (g_cE 12 true cX12_init) = true := g_cF_l (by decide +kernel)
set_option maxRecDepth 100000 in
theorem tkX12_init_22 : ttX12_init_22.all (g_cE 12 true cX12_init) = true := g_cF_l (by decide +kernel)
set_option maxRecDepth 100000 in
theorem tkX12_init_23 : ttX12_init_23.all (g_cE 12 true cX12_init) = true := g_cF_l (by decide +kernel)
set_option maxRecDepth 100000 in
theorem tkX12_init_24 : ttX12_init_24.all (g_cE 12 true cX12_init) = true := g_cF_l (by decide +kernel)
set_option maxRecDepth 100000 in
theorem tkX12_init_25 : ttX12_init_25.all (g_cE 12 true cX12_init) = true := g_cF_l (by decide +kernel)
set_option maxRecDepth 100000 in
theorem tkX12_init_26 : ttX12_init_26.all (g_cE 12 true cX12_init) = true := g_cF_l (by decide +kernel)
set_option maxRecDepth 100000 in
theorem tkX12_init_27 : ttX12_init_27.all (g_cE 12 true cX12_init) = true := g_cF_l (by decide +kernel)
theorem tkX12_init : ttX12_init.all (fun r => r.2.all (g_cE 12 true cX12_init)) = true := by
  unfold ttX12_init
  simp only [List.all_cons, List.all_nil, Bool.and_true, Bool.and_eq_true]
  exact ⟨tkX12_init_0, tkX12_init_1, tkX12_init_2, tkX12_init_3, tkX12_init_4, tkX12_init_5, tkX12_init_6, tkX12_init_7, tkX12_init_8, tkX12_init_9, tkX12_init_10, tkX12_init_11, tkX12_init_12, tkX12_init_13, tkX12_init_14, tkX12_init_15, tkX12_init_16, tkX12_init_17, tkX12_init_18, tkX12_init_19, tkX12_init_20, tkX12_init_21, tkX12_init_22, tkX12_init_23, tkX12_init_24, tkX12_init_25, tkX12_init_26, tkX12_init_27⟩
set_option maxRecDepth 100000 in
theorem tkX12_lies : ttX12_lies.all (fun r => r.2.all (g_cE 12 false cX12_lies)) = true := g_cF_ll (by decide +kernel)
set_option maxRecDepth 100000 in
theorem tkX12_has : ttX12_has.all (fun r => r.2.all (g_cE 12 false cX12_has)) = true := g_cF_ll (by decide +kernel)
set_option maxRecDepth 100000 in
theorem tkX12_sizeOf : ttX12_sizeOf.all (fun r => r.2.all (g_cE 12 false cX12_sizeOf)) = true := g_cF_ll (by decide +kernel)
set_option maxRecDepth 100000 in
theorem tkX12_held : ttX12_held.all (fun r => r.2.all (g_cE 12 false cX12_held)) = true := g_cF_ll (by decide +kernel)
set_option maxRecDepth 100000 in
theorem tkX12_push : ttX12_push.all (fun r => r.2.all (g_cE 12 false cX12_push)) = true := g_cF_ll (by decide +kernel)
set_option maxRecDepth 100000 in
theorem tkX12_feed : ttX12_feed.all (fun r => r.2.all (g_cE 12 false cX12_feed)) = true := g_cF_ll (by decide +kernel)
set_option maxRecDepth 100000 in
theorem tkX12_byteAt : ttX12_byteAt.all (fun r => r.2.all (g_cE 12 false cX12_byteAt)) = true := g_cF_ll (by decide +kernel)
set_option maxRecDepth 100000 in
theorem tkX12_here : ttX12_here.all (fun r => r.2.all (g_cE 12 false cX12_here)) = true := g_cF_ll (by decide +kernel)
set_option maxRecDepth 100000 in
theorem tkX12_wrongs : ttX12_wrongs.all (fun r => r.2.all (g_cE 12 false cX12_wrongs)) = true := g_cF_ll (by decide +kernel)
set_option maxRecDepth 100000 in
theorem tkX12_isGood : ttX12_isGood.all (fun r => r.2.all (g_cE 12 false cX12_isGood)) = true := g_cF_ll (by decide +kernel)
set_option maxRecDepth 100000 in
theorem tkX12_seesDigit : ttX12_seesDigit.all (fun r => r.2.all (g_cE 12 false cX12_seesDigit)) = true := g_cF_ll (by decide +kernel)
set_option maxRecDepth 100000 in
theorem tkX12_begins : ttX12_begins.all (fun r => r.2.all (g_cE 12 false cX12_begins)) = true := g_cF_ll (by decide +kernel)
set_option maxRecDepth 100000 in
theorem tkX12_emit : ttX12_emit.all (fun r => r.2.all (g_cE 12 false cX12_emit)) = true := g_cF_ll (by decide +kernel)
set_option maxRecDepth 100000 in
theorem tkX12_top : ttX12_top.all (fun r => r.2.all (g_cE 12 false cX12_top)) = true := g_cF_ll (by decide +kernel)
set_option maxRecDepth 100000 in
theorem tkX12_puts : ttX12_puts.all (fun r => r.2.all (g_cE 12 false cX12_puts)) = true := g_cF_ll (by decide +kernel)
set_option maxRecDepth 100000 in
theorem tkX12_opens : ttX12_opens.all (fun r => r.2.all (g_cE 12 false cX12_opens)) = true := g_cF_ll (by decide +kernel)
set_option maxRecDepth 100000 in
theorem tkX12_reads : ttX12_reads.all (fun r => r.2.all (g_cE 12 false cX12_reads)) = true := g_cF_ll (by decide +kernel)
set_option maxRecDepth 100000 in
theorem tkX12_isTimes : ttX12_isTimes.all (fun r => r.2.all (g_cE 12 false cX12_isTimes)) = true := g_cF_ll (by decide +kernel)
end Prt16h
section Prt16i
set_option maxRecDepth 100000 in
theorem tkX12_isPlus : ttX12_isPlus.all (fun r => r.2.all (g_cE 12 false cX12_isPlus)) = true := g_cF_ll (by decide +kernel)
set_option maxRecDepth 100000 in
theorem tkX12_isCompared : ttX12_isCompared.all (fun r => r.2.all (g_cE 12 false cX12_isCompared)) = true := g_cF_ll (by decide +kernel)
set_option maxRecDepth 100000 in
theorem tkX12_isValue : ttX12_isValue.all (fun r => r.2.all (g_cE 12 false cX12_isValue)) = true := g_cF_ll (by decide +kernel)
set_option maxRecDepth 100000 in
theorem tkX12_sums : ttX12_sums.all (fun r => r.2.all (g_cE 12 false cX12_sums)) = true := g_cF_ll (by decide +kernel)
set_option maxRecDepth 100000 in
theorem tkX12_joins : ttX12_joins.all (fun r => r.2.all (g_cE 12 false cX12_joins)) = true := g_cF_ll (by decide +kernel)
set_option maxRecDepth 100000 in
theorem tkX12_ends : ttX12_ends.all (fun r => r.2.all (g_cE 12 false cX12_ends)) = true := g_cF_ll (by decide +kernel)
set_option maxRecDepth 100000 in
theorem tkX12_factor : ttX12_factor.all (fun r => r.2.all (g_cE 12 false cX12_factor)) = true := g_cF_ll (by decide +kernel)
set_option maxRecDepth 100000 in
theorem tkX12_stays : ttX12_stays.all (fun r => r.2.all (g_cE 12 false cX12_stays)) = true := g_cF_ll (by decide +kernel)
set_option maxRecDepth 100000 in
theorem tkX12_value : ttX12_value.all (fun r => r.2.all (g_cE 12 false cX12_value)) = true := g_cF_ll (by decide +kernel)
set_option maxRecDepth 100000 in
theorem tkX12_pieceOfC : ttX12_pieceOfC.all (fun r => r.2.all (g_cE 12 false cX12_pieceOfC)) = true := g_cF_ll (by decide +kernel)
set_option maxRecDepth 100000 in
theorem tkX12_goesBehind : ttX12_goesBehind.all (fun r => r.2.all (g_cE 12 false cX12_goesBehind)) = true := g_cF_ll (by decide +kernel)
set_option maxRecDepth 100000 in
theorem tkX12_condition : ttX12_condition.all (fun r => r.2.all (g_cE 12 false cX12_condition)) = true := g_cF_ll (by decide +kernel)
set_option maxRecDepth 100000 in
theorem tkX12_isClause : ttX12_isClause.all (fun r => r.2.all (g_cE 12 false cX12_isClause)) = true := g_cF_ll (by decide +kernel)
set_option maxRecDepth 100000 in
theorem tkX12_clause : ttX12_clause.all (fun r => r.2.all (g_cE 12 false cX12_clause)) = true := g_cF_ll (by decide +kernel)
set_option maxRecDepth 100000 in
theorem tkX12_takesText_0 : ttX12_takesText_0.all (g_cE 12 false cX12_takesText) = true := g_cF_l (by decide +kernel)
set_option maxRecDepth 100000 in
theorem tkX12_takesText_1 : ttX12_takesText_1.all (g_cE 12 false cX12_takesText) = true := g_cF_l (by decide +kernel)
set_option maxRecDepth 100000 in
theorem tkX12_takesText_2 : ttX12_takesText_2.all (g_cE 12 false cX12_takesText) = true := g_cF_l (by decide +kernel)
set_option maxRecDepth 100000 in
theorem tkX12_takesText_3 : ttX12_takesText_3.all (g_cE 12 false cX12_takesText) = true := g_cF_l (by decide +kernel)
set_option maxRecDepth 100000 in
theorem tkX12_takesText_4 : ttX12_takesText_4.all (g_cE 12 false cX12_takesText) = true := g_cF_l (by decide +kernel)
set_option maxRecDepth 100000 in
theorem tkX12_takesText_5 : ttX12_takesText_5.all (g_cE 12 false cX12_takesText) = true := g_cF_l (by decide +kernel)
set_option maxRecDepth 100000 in
theorem tkX12_takesText_6 : ttX12_takesText_6.all (g_cE 12 false cX12_takesText) = true := g_cF_l (by decide +kernel)
set_option maxRecDepth 100000 in
theorem tkX12_takesText_7 : ttX12_takesText_7.all (g_cE 12 false cX12_takesText) = true := g_cF_l (by decide +kernel)
set_option maxRecDepth 100000 in
theorem tkX12_takesText_8 : ttX12_takesText_8.all (g_cE 12 false cX12_takesText) = true := g_cF_l (by decide +kernel)
set_option maxRecDepth 100000 in
theorem tkX12_takesText_9 : ttX12_takesText_9.all (g_cE 12 false cX12_takesText) = true := g_cF_l (by decide +kernel)
set_option maxRecDepth 100000 in
theorem tkX12_takesText_10 : ttX12_takesText_10.all (g_cE 12 false cX12_takesText) = true := g_cF_l (by decide +kernel)
set_option maxRecDepth 100000 in
theorem tkX12_takesText_11 : ttX12_takesText_11.all (g_cE 12 false cX12_takesText) = true := g_cF_l (by decide +kernel)
set_option maxRecDepth 100000 in
theorem tkX12_takesText_12 : ttX12_takesText_12.all (g_cE 12 false cX12_takesText) = true := g_cF_l (by decide +kernel)
theorem tkX12_takesText : ttX12_takesText.all (fun r => r.2.all (g_cE 12 false cX12_takesText)) = true := by
  unfold ttX12_takesText
  simp only [List.all_cons, List.all_nil, Bool.and_true, Bool.and_eq_true]
  exact ⟨tkX12_takesText_0, tkX12_takesText_1, tkX12_takesText_2, tkX12_takesText_3, tkX12_takesText_4, tkX12_takesText_5, tkX12_takesText_6, tkX12_takesText_7, tkX12_takesText_8, tkX12_takesText_9, tkX12_takesText_10, tkX12_takesText_11, tkX12_takesText_12⟩
set_option maxRecDepth 100000 in
theorem tkX12_law : ttX12_law.all (fun r => r.2.all (g_cE 12 false cX12_law)) = true := g_cF_ll (by decide +kernel)
set_option maxRecDepth 100000 in
theorem tkX12_rules : ttX12_rules.all (fun r => r.2.all (g_cE 12 false cX12_rules)) = true := g_cF_ll (by decide +kernel)
set_option maxRecDepth 100000 in
theorem tkX12_valueOf : ttX12_valueOf.all (fun r => r.2.all (g_cE 12 false cX12_valueOf)) = true := g_cF_ll (by decide +kernel)
set_option maxRecDepth 100000 in
theorem tkX12_worked : ttX12_worked.all (fun r => r.2.all (g_cE 12 false cX12_worked)) = true := g_cF_ll (by decide +kernel)
set_option maxRecDepth 100000 in
theorem tkX12_does : ttX12_does.all (fun r => r.2.all (g_cE 12 false cX12_does)) = true := g_cF_ll (by decide +kernel)
set_option maxRecDepth 100000 in
theorem tkX12_works : ttX12_works.all (fun r => r.2.all (g_cE 12 false cX12_works)) = true := g_cF_ll (by decide +kernel)
set_option maxRecDepth 100000 in
theorem tkX12_isSo : ttX12_isSo.all (fun r => r.2.all (g_cE 12 false cX12_isSo)) = true := g_cF_ll (by decide +kernel)
set_option maxRecDepth 100000 in
theorem tkX12_tells : ttX12_tells.all (fun r => r.2.all (g_cE 12 false cX12_tells)) = true := g_cF_ll (by decide +kernel)
set_option maxRecDepth 100000 in
theorem tkX12_says : ttX12_says.all (fun r => r.2.all (g_cE 12 false cX12_says)) = true := g_cF_ll (by decide +kernel)
set_option maxRecDepth 100000 in
theorem tkX12_nothingStands : ttX12_nothingStands.all (fun r => r.2.all (g_cE 12 false cX12_nothingStands)) = true := g_cF_ll (by decide +kernel)
set_option maxRecDepth 100000 in
theorem tkX12_gustStands : ttX12_gustStands.all (fun r => r.2.all (g_cE 12 false cX12_gustStands)) = true := g_cF_ll (by decide +kernel)
set_option maxRecDepth 100000 in
theorem tkX12_falling : ttX12_falling.all (fun r => r.2.all (g_cE 12 false cX12_falling)) = true := g_cF_ll (by decide +kernel)
end Prt16i
section Prt16j
set_option maxRecDepth 100000 in
theorem tkX12_isKeptBy : ttX12_isKeptBy.all (fun r => r.2.all (g_cE 12 false cX12_isKeptBy)) = true := g_cF_ll (by decide +kernel)
set_option maxRecDepth 100000 in
theorem tkX12_isAngry : ttX12_isAngry.all (fun r => r.2.all (g_cE 12 false cX12_isAngry)) = true := g_cF_ll (by decide +kernel)
set_option maxRecDepth 100000 in
theorem tkX12_doQuarrel : ttX12_doQuarrel.all (fun r => r.2.all (g_cE 12 false cX12_doQuarrel)) = true := g_cF_ll (by decide +kernel)
set_option maxRecDepth 100000 in
theorem tkX12_isTold : ttX12_isTold.all (fun r => r.2.all (g_cE 12 false cX12_isTold)) = true := g_cF_ll (by decide +kernel)
set_option maxRecDepth 100000 in
theorem tkX12_isWard : ttX12_isWard.all (fun r => r.2.all (g_cE 12 false cX12_isWard)) = true := g_cF_ll (by decide +kernel)
set_option maxRecDepth 100000 in
theorem tkX12_isThere : ttX12_isThere.all (fun r => r.2.all (g_cE 12 false cX12_isThere)) = true := g_cF_ll (by decide +kernel)
set_option maxRecDepth 100000 in
theorem tkX12_areHabits : ttX12_areHabits.all (fun r => r.2.all (g_cE 12 false cX12_areHabits)) = true := g_cF_ll (by decide +kernel)
set_option maxRecDepth 100000 in
theorem tkX12_isIn : ttX12_isIn.all (fun r => r.2.all (g_cE 12 false cX12_isIn)) = true := g_cF_ll (by decide +kernel)
set_option maxRecDepth 100000 in
theorem tkX12_manyIn : ttX12_manyIn.all (fun r => r.2.all (g_cE 12 false cX12_manyIn)) = true := g_cF_ll (by decide +kernel)
set_option maxRecDepth 100000 in
theorem tkX12_togetherIn : ttX12_togetherIn.all (fun r => r.2.all (g_cE 12 false cX12_togetherIn)) = true := g_cF_ll (by decide +kernel)
set_option maxRecDepth 100000 in
theorem tkX12_gust : ttX12_gust.all (fun r => r.2.all (g_cE 12 false cX12_gust)) = true := g_cF_ll (by decide +kernel)
set_option maxRecDepth 100000 in
theorem tkX12_name : ttX12_name.all (fun r => r.2.all (g_cE 12 false cX12_name)) = true := g_cF_ll (by decide +kernel)
set_option maxRecDepth 100000 in
theorem tkX12_moves : ttX12_moves.all (fun r => r.2.all (g_cE 12 false cX12_moves)) = true := g_cF_ll (by decide +kernel)
set_option maxRecDepth 100000 in
theorem tkX12_habit : ttX12_habit.all (fun r => r.2.all (g_cE 12 false cX12_habit)) = true := g_cF_ll (by decide +kernel)
set_option maxRecDepth 100000 in
theorem tkX12_ward : ttX12_ward.all (fun r => r.2.all (g_cE 12 false cX12_ward)) = true := g_cF_ll (by decide +kernel)
set_option maxRecDepth 100000 in
theorem tkX12_nurse : ttX12_nurse.all (fun r => r.2.all (g_cE 12 false cX12_nurse)) = true := g_cF_ll (by decide +kernel)
set_option maxRecDepth 100000 in
theorem tkX12_needs : ttX12_needs.all (fun r => r.2.all (g_cE 12 false cX12_needs)) = true := g_cF_ll (by decide +kernel)
set_option maxRecDepth 100000 in
theorem tkX12_repeats : ttX12_repeats.all (fun r => r.2.all (g_cE 12 false cX12_repeats)) = true := g_cF_ll (by decide +kernel)
set_option maxRecDepth 100000 in
theorem tkX12_timesTold : ttX12_timesTold.all (fun r => r.2.all (g_cE 12 false cX12_timesTold)) = true := g_cF_ll (by decide +kernel)
set_option maxRecDepth 100000 in
theorem tkX12_monthTold_0 : ttX12_monthTold_0.all (g_cE 12 false cX12_monthTold) = true := g_cF_l (by decide +kernel)
set_option maxRecDepth 100000 in
theorem tkX12_monthTold_1 : ttX12_monthTold_1.all (g_cE 12 false cX12_monthTold) = true := g_cF_l (by decide +kernel)
set_option maxRecDepth 100000 in
theorem tkX12_monthTold_2 : ttX12_monthTold_2.all (g_cE 12 false cX12_monthTold) = true := g_cF_l (by decide +kernel)
set_option maxRecDepth 100000 in
theorem tkX12_monthTold_3 : ttX12_monthTold_3.all (g_cE 12 false cX12_monthTold) = true := g_cF_l (by decide +kernel)
set_option maxRecDepth 100000 in
theorem tkX12_monthTold_4 : ttX12_monthTold_4.all (g_cE 12 false cX12_monthTold) = true := g_cF_l (by decide +kernel)
set_option maxRecDepth 100000 in
theorem tkX12_monthTold_5 : ttX12_monthTold_5.all (g_cE 12 false cX12_monthTold) = true := g_cF_l (by decide +kernel)
set_option maxRecDepth 100000 in
theorem tkX12_monthTold_6 : ttX12_monthTold_6.all (g_cE 12 false cX12_monthTold) = true := g_cF_l (by decide +kernel)
set_option maxRecDepth 100000 in
theorem tkX12_monthTold_7 : ttX12_monthTold_7.all (g_cE 12 false cX12_monthTold) = true := g_cF_l (by decide +kernel)
set_option maxRecDepth 100000 in
theorem tkX12_monthTold_8 : ttX12_monthTold_8.all (g_cE 12 false cX12_monthTold) = true := g_cF_l (by decide +kernel)
set_option maxRecDepth 100000 in
theorem tkX12_monthTold_9 : ttX12_monthTold_9.all (g_cE 12 false cX12_monthTold) = true := g_cF_l (by decide +kernel)
set_option maxRecDepth 100000 in
theorem tkX12_monthTold_10 : ttX12_monthTold_10.all (g_cE 12 false cX12_monthTold) = true := g_cF_l (by decide +kernel)
set_option maxRecDepth 100000 in
theorem tkX12_monthTold_11 : ttX12_monthTold_11.all (g_cE 12 false cX12_monthTold) = true := g_cF_l (by decide +kernel)
set_option maxRecDepth 100000 in
theorem tkX12_monthTold_12 : ttX12_monthTold_12.all (g_cE 12 false cX12_monthTold) = true := g_cF_l (by decide +kernel)
set_option maxRecDepth 100000 in
theorem tkX12_monthTold_13 : ttX12_monthTold_13.all (g_cE 12 false cX12_monthTold) = true := g_cF_l (by decide +kernel)
set_option maxRecDepth 100000 in
theorem tkX12_monthTold_14 : ttX12_monthTold_14.all (g_cE 12 false cX12_monthTold) = true := g_cF_l (by decide +kernel)
theorem tkX12_monthTold : ttX12_monthTold.all (fun r => r.2.all (g_cE 12 false cX12_monthTold)) = true := by
  unfold ttX12_monthTold
  simp only [List.all_cons, List.all_nil, Bool.and_true, Bool.and_eq_true]
  exact ⟨tkX12_monthTold_0, tkX12_monthTold_1, tkX12_monthTold_2, tkX12_monthTold_3, tkX12_monthTold_4, tkX12_monthTold_5, tkX12_monthTold_6, tkX12_monthTold_7, tkX12_monthTold_8, tkX12_monthTold_9, tkX12_monthTold_10, tkX12_monthTold_11, tkX12_monthTold_12, tkX12_monthTold_13, tkX12_monthTold_14⟩
set_option maxRecDepth 100000 in
theorem tkX12_timetable : ttX12_timetable.all (fun r => r.2.all (g_cE 12 false cX12_timetable)) = true := g_cF_ll (by decide +kernel)
set_option maxRecDepth 100000 in
theorem tkX12_lessonOf : ttX12_lessonOf.all (fun r => r.2.all (g_cE 12 false cX12_lessonOf)) = true := g_cF_ll (by decide +kernel)
set_option maxRecDepth 100000 in
theorem tkX12_draw : ttX12_draw.all (fun r => r.2.all (g_cE 12 false cX12_draw)) = true := g_cF_ll (by decide +kernel)
set_option maxRecDepth 100000 in
theorem tkX12_weakens : ttX12_weakens.all (fun r => r.2.all (g_cE 12 false cX12_weakens)) = true := g_cF_ll (by decide +kernel)
set_option maxRecDepth 100000 in
theorem tkX12_isWell : ttX12_isWell.all (fun r => r.2.all (g_cE 12 false cX12_isWell)) = true := g_cF_ll (by decide +kernel)
end Prt16j
