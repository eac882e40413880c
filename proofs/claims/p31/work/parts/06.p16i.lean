section Prt16i
set_option maxRecDepth 100000 in
theorem tkX12_isPlus : ttX12_isPlus.all (fun r => r.2.all (g_cE 12 false cX12_isPlus)) = true := g_cF_ll (by decide +kernel)
set_option maxRecDepth 100000 in
theorem tkX12_isCompared : ttX12_isCompared.all (fun r => r.2.all (g_cE 12 false cX12_isCompared)) = true := g_cF_ll (by decide +kernel)
set_option maxRecDepth 100000 in
theorem tkX12_isValue : ttX12_isValue.all (fun r => r.2.all (g_cE 12 false cX12_isValue)) = true := g_cF_ll (by decide +kernel)
set_option maxRecDepth 100000 in
theorem tkX12_sums : ttX12_sums.all (fun r => r.2.all (g_cE 12 false cX12_sums)) = true := g_cF_ll (by decide +kernel)
set_option maxRecDepth 100000 in
theorem tkX12_joins : ttX12_joins.all (fun r => r.2.all (g_cE 12 false cX12_joins)) = true := g_cF_ll (by decide +kernel)
set_option maxRecDepth 100000 in
theorem tkX12_ends : ttX12_ends.all (fun r => r.2.all (g_cE 12 false cX12_ends)) = true := g_cF_ll (by decide +kernel)
set_option maxRecDepth 100000 in
theorem tkX12_factor : ttX12_factor.all (fun r => r.2.all (g_cE 12 false cX12_factor)) = true := g_cF_ll (by decide +kernel)
set_option maxRecDepth 100000 in
theorem tkX12_stays : ttX12_stays.all (fun r => r.2.all (g_cE 12 false cX12_stays)) = true := g_cF_ll (by decide +kernel)
set_option maxRecDepth 100000 in
theorem tkX12_value : ttX12_value.all (fun r => r.2.all (g_cE 12 false cX12_value)) = true := g_cF_ll (by decide +kernel)
set_option maxRecDepth 100000 in
theorem tkX12_pieceOfC : ttX12_pieceOfC.all (fun r => r.2.all (g_cE 12 false cX12_pieceOfC)) = true := g_cF_ll (by decide +kernel)
set_option maxRecDepth 100000 in
theorem tkX12_goesBehind : ttX12_goesBehind.all (fun r => r.2.all (g_cE 12 false cX12_goesBehind)) = true := g_cF_ll (by decide +kernel)
set_option maxRecDepth 100000 in
theorem tkX12_condition : ttX12_condition.all (fun r => r.2.all (g_cE 12 false cX12_condition)) = true := g_cF_ll (by decide +kernel)
set_option maxRecDepth 100000 in
theorem tkX12_isClause : ttX12_isClause.all (fun r => r.2.all (g_cE 12 false cX12_isClause)) = true := g_cF_ll (by decide +kernel)
set_option maxRecDepth 100000 in
theorem tkX12_clause : ttX12_clause.all (fun r => r.2.all (g_cE 12 false cX12_clause)) = true := g_cF_ll (by decide +kernel)
set_option maxRecDepth 100000 in
theorem tkX12_takesText_0 : ttX12_takesText_0.all (g_cE 12 false cX12_takesText) = true := g_cF_l (by decide +kernel)
set_option maxRecDepth 100000 in
theorem tkX12_takesText_1 : ttX12_takesText_1.all (g_cE 12 false cX12_takesText) = true := g_cF_l (by decide +kernel)
set_option maxRecDepth 100000 in
theorem tkX12_takesText_2 : ttX12_takesText_2.all (g_cE 12 false cX12_takesText) = true := g_cF_l (by decide +kernel)
set_option maxRecDepth 100000 in
theorem tkX12_takesText_3 : ttX12_takesText_3.all (g_cE 12 false cX12_takesText) = true := g_cF_l (by decide +kernel)
set_option maxRecDepth 100000 in
theorem tkX12_takesText_4 : ttX12_takesText_4.all (g_cE 12 false cX12_takesText) = true := g_cF_l (by decide +kernel)
set_option maxRecDepth 100000 in
theorem tkX12_takesText_5 : ttX12_takesText_5.all (g_cE 12 false cX12_takesText) = true := g_cF_l (by decide +kernel)
set_option maxRecDepth 100000 in
theorem tkX12_takesText_6 : ttX12_takesText_6.all (g_cE 12 false cX12_takesText) = true := g_cF_l (by decide +kernel)
set_option maxRecDepth 100000 in
theorem tkX12_takesText_7 : ttX12_takesText_7.all (g_cE 12 false cX12_takesText) = true := g_cF_l (by decide +kernel)
set_option maxRecDepth 100000 in
theorem tkX12_takesText_8 : ttX12_takesText_8.all (g_cE 12 false cX12_takesText) = true := g_cF_l (by decide +kernel)
set_option maxRecDepth 100000 in
theorem tkX12_takesText_9 : ttX12_takesText_9.all (g_cE 12 false cX12_takesText) = true := g_cF_l (by decide +kernel)
set_option maxRecDepth 100000 in
theorem tkX12_takesText_10 : ttX12_takesText_10.all (g_cE 12 false cX12_takesText) = true := g_cF_l (by decide +kernel)
set_option maxRecDepth 100000 in
theorem tkX12_takesText_11 : ttX12_takesText_11.all (g_cE 12 false cX12_takesText) = true := g_cF_l (by decide +kernel)
set_option maxRecDepth 100000 in
theorem tkX12_takesText_12 : ttX12_takesText_12.all (g_cE 12 false cX12_takesText) = true := g_cF_l (by decide +kernel)
theorem tkX12_takesText : ttX12_takesText.all (fun r => r.2.all (g_cE 12 false cX12_takesText)) = true := by
  unfold ttX12_takesText
  simp only [List.all_cons, List.all_nil, Bool.and_true, Bool.and_eq_true]
  exact ⟨tkX12_takesText_0, tkX12_takesText_1, tkX12_takesText_2, tkX12_takesText_3, tkX12_takesText_4, tkX12_takesText_5, tkX12_takesText_6, tkX12_takesText_7, tkX12_takesText_8, tkX12_takesText_9, tkX12_takesText_10, tkX12_takesText_11, tkX12_takesText_12⟩
set_option maxRecDepth 100000 in
theorem tkX12_law : ttX12_law.all (fun r => r.2.all (g_cE 12 false cX12_law)) = true := g_cF_ll (by decide +kernel)
set_option maxRecDepth 100000 in
theorem tkX12_rules : ttX12_rules.all (fun r => r.2.all (g_cE 12 false cX12_rules)) = true := g_cF_ll (by decide +kernel)
set_option maxRecDepth 100000 in
theorem tkX12_valueOf : ttX12_valueOf.all (fun r => r.2.all (g_cE 12 false cX12_valueOf)) = true := g_cF_ll (by decide +kernel)
set_option maxRecDepth 100000 in
theorem tkX12_worked : ttX12_worked.all (fun r => r.2.all (g_cE 12 false cX12_worked)) = true := g_cF_ll (by decide +kernel)
set_option maxRecDepth 100000 in
theorem tkX12_does : ttX12_does.all (fun r => r.2.all (g_cE 12 false cX12_does)) = true := g_cF_ll (by decide +kernel)
set_option maxRecDepth 100000 in
theorem tkX12_works : ttX12_works.all (fun r => r.2.all (g_cE 12 false cX12_works)) = true := g_cF_ll (by decide +kernel)
set_option maxRecDepth 100000 in
theorem tkX12_isSo : ttX12_isSo.all (fun r => r.2.all (g_cE 12 false cX12_isSo)) = true := g_cF_ll (by decide +kernel)
set_option maxRecDepth 100000 in
theorem tkX12_tells : ttX12_tells.all (fun r => r.2.all (g_cE 12 false cX12_tells)) = true := g_cF_ll (by decide +kernel)
set_option maxRecDepth 100000 in
theorem tkX12_says : ttX12_says.all (fun r => r.2.all (g_cE 12 false cX12_says)) = true := g_cF_ll (by decide +kernel)
set_option maxRecDepth 100000 in
theorem tkX12_nothingStands : ttX12_nothingStands.all (fun r => r.2.all (g_cE 12 false cX12_nothingStands)) = true := g_cF_ll (by decide +kernel)
set_option maxRecDepth 100000 in
theorem tkX12_gustStands : ttX12_gustStands.all (fun r => r.2.all (g_cE 12 false cX12_gustStands)) = true := g_cF_ll (by decide +kernel)
set_option maxRecDepth 100000 in
theorem tkX12_falling : ttX12_falling.all (fun r => r.2.all (g_cE 12 false cX12_falling)) = true := g_cF_ll (by decide +kernel)
end Prt16i
section Prt16j
set_option maxRecDepth 100000 in
theorem tkX12_isKeptBy : ttX12_isKeptBy.all (fun r => r.2.all (g_cE 12 false cX12_isKeptBy)) = true := g_cF_ll (by decide +kernel)
set_option maxRecDepth 100000 in
theorem tkX12_isAngry : ttX12_isAngry.all (fun r => r.2.all (g_cE 12 false cX12_isAngry)) = true := g_cF_ll (by decide +kernel)
set_option maxRecDepth 100000 in
theorem tkX12_doQuarrel : ttX12_doQuarrel.all (fun r => r.2.all (g_cE 12 false cX12_doQuarrel)) = true := g_cF_ll (by decide +kernel)
set_option maxRecDepth 100000 in
theorem tkX12_isTold : ttX12_isTold.all (fun r => r.2.all (g_cE 12 false cX12_isTold)) = true := g_cF_ll (by decide +kernel)
set_option maxRecDepth 100000 in
theorem tkX12_isWard : ttX12_isWard.all (fun r => r.2.all (g_cE 12 false cX12_isWard)) = true := g_cF_ll (by decide +kernel)
set_option maxRecDepth 100000 in
theorem tkX12_isThere : ttX12_isThere.all (fun r => r.2.all (g_cE 12 false cX12_isThere)) = true := g_cF_ll (by decide +kernel)
set_option maxRecDepth 100000 in
theorem tkX12_areHabits : ttX12_areHabits.all (fun r => r.2.all (g_cE 12 false cX12_areHabits)) = true := g_cF_ll (by decide +kernel)
set_option maxRecDepth 100000 in
theorem tkX12_isIn : ttX12_isIn.all (fun r => r.2.all (g_cE 12 false cX12_isIn)) = true := g_cF_ll (by decide +kernel)
set_option maxRecDepth 100000 in
theorem tkX12_manyIn : ttX12_manyIn.all (fun r => r.2.all (g_cE 12 false cX12_manyIn)) = true := g_cF_ll (by decide +kernel)
set_option maxRecDepth 100000 in
theorem tkX12_togetherIn : ttX12_togetherIn.all (fun r => r.2.all (g_cE 12 false cX12_togetherIn)) = true := g_cF_ll (by decide +kernel)
set_option maxRecDepth 100000 in
theorem tkX12_gust : ttX12_gust.all (fun r => r.2.all (g_cE 12 false cX12_gust)) = true := g_cF_ll (by decide +kernel)
set_option maxRecDepth 100000 in
theorem tkX12_name : ttX12_name.all (fun r => r.2.all (g_cE 12 false cX12_name)) = true := g_cF_ll (by decide +kernel)
set_option maxRecDepth 100000 in
theorem tkX12_moves : ttX12_moves.all (fun r => r.2.all (g_cE 12 false cX12_moves)) = true := g_cF_ll (by decide +kernel)
set_option maxRecDepth 100000 in
theorem tkX12_habit : ttX12_habit.all (fun r => r.2.all (g_cE 12 false cX12_habit)) = true := g_cF_ll (by decide +kernel)
set_option maxRecDepth 100000 in
theorem tkX12_ward : ttX12_ward.all (fun r => r.2.all (g_cE 12 false cX12_ward)) = true := g_cF_ll (by decide +kernel)
set_option maxRecDepth 100000 in
theorem tkX12_nurse : ttX12_nurse.all (fun r => r.2.all (g_cE 12 false cX12_nurse)) = true := g_cF_ll (by decide +kernel)
set_option maxRecDepth 100000 in
theorem tkX12_needs : ttX12_needs.all (fun r => r.2.all (g_cE 12 false cX12_needs)) = true := g_cF_ll (by decide +kernel)
set_option maxRecDepth 100000 in
theorem tkX12_repeats : ttX12_repeats.all (fun r => r.2.all (g_cE 12 false cX12_repeats)) = true := g_cF_ll (by decide +kernel)
set_option maxRecDepth 100000 in
theorem tkX12_timesTold : ttX12_timesTold.all (fun r => r.2.all (g_cE 12 false cX12_timesTold)) = true := g_cF_ll (by decide +kernel)
set_option maxRecDepth 100000 in
theorem tkX12_monthTold_0 : ttX12_monthTold_0.all (g_cE 12 false cX12_monthTold) = true := g_cF_l (by decide +kernel)
set_option maxRecDepth 100000 in
theorem tkX12_monthTold_1 : ttX12_monthTold_1.all (g_cE 12 false cX12_monthTold) = true := g_cF_l (by decide +kernel)
set_option maxRecDepth 100000 in
theorem tkX12_monthTold_2 : ttX12_monthTold_2.all (g_cE 12 false cX12_monthTold) = true := g_cF_l (by decide +kernel)
set_option maxRecDepth 100000 in
theorem tkX12_monthTold_3 : ttX12_monthTold_3.all (g_cE 12 false cX12_monthTold) = true := g_cF_l (by decide +kernel)
set_option maxRecDepth 100000 in
theorem tkX12_monthTold_4 : ttX12_monthTold_4.all (g_cE 12 false cX12_monthTold) = true := g_cF_l (by decide +kernel)
set_option maxRecDepth 100000 in
theorem tkX12_monthTold_5 : ttX12_monthTold_5.all (g_cE 12 false cX12_monthTold) = true := g_cF_l (by decide +kernel)
set_option maxRecDepth 100000 in
theorem tkX12_monthTold_6 : ttX12_monthTold_6.all (g_cE 12 false cX12_monthTold) = true := g_cF_l (by decide +kernel)
set_option maxRecDepth 100000 in
theorem tkX12_monthTold_7 : ttX12_monthTold_7.all (g_cE 12 false cX12_monthTold) = true := g_cF_l (by decide +kernel)
set_option maxRecDepth 100000 in
theorem tkX12_monthTold_8 : ttX12_monthTold_8.all (g_cE 12 false cX12_monthTold) = true := g_cF_l (by decide +kernel)
set_option maxRecDepth 100000 in
theorem tkX12_monthTold_9 : ttX12_monthTold_9.all (g_cE 12 false cX12_monthTold) = true := g_cF_l (by decide +kernel)
set_option maxRecDepth 100000 in
theorem tkX12_monthTold_10 : ttX12_monthTold_10.all (g_cE 12 false cX12_monthTold) = true := g_cF_l (by decide +kernel)
set_option maxRecDepth 100000 in
theorem tkX12_monthTold_11 : ttX12_monthTold_11.all (g_cE 12 false cX12_monthTold) = true := g_cF_l (by decide +kernel)
set_option maxRecDepth 100000 in
theorem tkX12_monthTold_12 : ttX12_monthTold_12.all (g_cE 12 false cX12_monthTold) = true := g_cF_l (by decide +kernel)
set_option maxRecDepth 100000 in
theorem tkX12_monthTold_13 : ttX12_monthTold_13.all (g_cE 12 false cX12_monthTold) = true := g_cF_l (by decide +kernel)
set_option maxRecDepth 100000 in
theorem tkX12_monthTold_14 : ttX12_monthTold_14.all (g_cE 12 false cX12_monthTold) = true := g_cF_l (by decide +kernel)
theorem tkX12_monthTold : ttX12_monthTold.all (fun r => r.2.all (g_cE 12 false cX12_monthTold)) = true := by
  unfold ttX12_monthTold
  simp only [List.all_cons, List.all_nil, Bool.and_true, Bool.and_eq_true]
  exact ⟨tkX12_monthTold_0, tkX12_monthTold_1, tkX12_monthTold_2, tkX12_monthTold_3, tkX12_monthTold_4, tkX12_monthTold_5, tkX12_monthTold_6, tkX12_monthTold_7, tkX12_monthTold_8, tkX12_monthTold_9, tkX12_monthTold_10, tkX12_monthTold_11, tkX12_monthTold_12, tkX12_monthTold_13, tkX12_monthTold_14⟩
set_option maxRecDepth 100000 in
theorem tkX12_timetable : ttX12_timetable.all (fun r => r.2.all (g_cE 12 false cX12_timetable)) = true := g_cF_ll (by decide +kernel)
set_option maxRecDepth 100000 in
theorem tkX12_lessonOf : ttX12_lessonOf.all (fun r => r.2.all (g_cE 12 false cX12_lessonOf)) = true := g_cF_ll (by decide +kernel)
set_option maxRecDepth 100000 in
theorem tkX12_draw : ttX12_draw.all (fun r => r.2.all (g_cE 12 false cX12_draw)) = true := g_cF_ll (by decide +kernel)
set_option maxRecDepth 100000 in
theorem tkX12_weakens : ttX12_weakens.all (fun r => r.2.all (g_cE 12 false cX12_weakens)) = true := g_cF_ll (by decide +kernel)
set_option maxRecDepth 100000 in
theorem tkX12_isWell : ttX12_isWell.all (fun r => r.2.all (g_cE 12 false cX12_isWell)) = true := g_cF_ll (by decide +kernel)
end Prt16j
section Prt16k
set_option maxRecDepth 100000 in
theorem tkX12_feeds : ttX12_feeds.all (fun r => r.2.all (g_cE 12 false cX12_feeds)) = true := g_cF_ll (by decide +kernel)
set_option maxRecDepth 100000 in
theorem tkX12_teaches : ttX12_teaches.all (fun r => r.2.all (g_cE 12 false cX12_teaches)) = true := g_cF_ll (by decide +kernel)
set_option maxRecDepth 100000 in
theorem tkX12_wardsGo : ttX12_wardsGo.all (fun r => r.2.all (g_cE 12 false cX12_wardsGo)) = true := g_cF_ll (by decide +kernel)
set_option maxRecDepth 100000 in
theorem tkX12_breaks : ttX12_breaks.all (fun r => r.2.all (g_cE 12 false cX12_breaks)) = true := g_cF_ll (by decide +kernel)
set_option maxRecDepth 100000 in
theorem tkX12_whistle : ttX12_whistle.all (fun r => r.2.all (g_cE 12 false cX12_whistle)) = true := g_cF_ll (by decide +kernel)
set_option maxRecDepth 100000 in
theorem tkX12_nursesGo : ttX12_nursesGo.all (fun r => r.2.all (g_cE 12 false cX12_nursesGo)) = true := g_cF_ll (by decide +kernel)
set_option maxRecDepth 100000 in
theorem tkX12_judges : ttX12_judges.all (fun r => r.2.all (g_cE 12 false cX12_judges)) = true := g_cF_ll (by decide +kernel)
set_option maxRecDepth 100000 in
theorem tkX12_go : ttX12_go.all (fun r => r.2.all (g_cE 12 false cX12_go)) = true := g_cF_ll (by decide +kernel)
set_option maxRecDepth 100000 in
theorem tkX12_months : ttX12_months.all (fun r => r.2.all (g_cE 12 false cX12_months)) = true := g_cF_ll (by decide +kernel)
set_option maxRecDepth 100000 in
theorem tkX12_laysAside_0 : ttX12_laysAside_0.all (g_cE 12 false cX12_laysAside) = true := g_cF_l (by decide +kernel)
set_option maxRecDepth 100000 in
theorem tkX12_laysAside_1 : ttX12_laysAside_1.all (g_cE 12 false cX12_laysAside) = true := g_cF_l (by decide +kernel)
set_option maxRecDepth 100000 in
theorem tkX12_laysAside_2 : ttX12_laysAside_2.all (g_cE 12 false cX12_laysAside) = true := g_cF_l (by decide +kernel)
set_option maxRecDepth 100000 in
theorem tkX12_laysAside_3 : ttX12_laysAside_3.all (g_cE 12 false cX12_laysAside) = true := g_cF_l (by decide +kernel)
set_option maxRecDepth 100000 in
theorem tkX12_laysAside_4 : ttX12_laysAside_4.all (g_cE 12 false cX12_laysAside) = true := g_cF_l (by decide +kernel)
set_option maxRecDepth 100000 in
theorem tkX12_laysAside_5 : ttX12_laysAside_5.all (g_cE 12 false cX12_laysAside) = true := g_cF_l (by decide +kernel)
set_option maxRecDepth 100000 in
theorem tkX12_laysAside_6 : ttX12_laysAside_6.all (g_cE 12 false cX12_laysAside) = true := g_cF_l (by decide +kernel)
set_option maxRecDepth 100000 in
theorem tkX12_laysAside_7 : ttX12_laysAside_7.all (g_cE 12 false cX12_laysAside) = true := g_cF_l (by decide +kernel)
set_option maxRecDepth 100000 in
theorem tkX12_laysAside_8 : ttX12_laysAside_8.all (g_cE 12 false cX12_laysAside) = true := g_cF_l (by decide +kernel)
set_option maxRecDepth 100000 in
theorem tkX12_laysAside_9 : ttX12_laysAside_9.all (g_cE 12 false cX12_laysAside) = true := g_cF_l (by decide +kernel)
set_option maxRecDepth 100000 in
theorem tkX12_laysAside_10 : ttX12_laysAside_10.all (g_cE 12 false cX12_laysAside) = true := g_cF_l (by decide +kernel)
set_option maxRecDepth 100000 in
theorem tkX12_laysAside_11 : ttX12_laysAside_11.all (g_cE 12 false cX12_laysAside) = true := g_cF_l (by decide +kernel)
set_option maxRecDepth 100000 in
theorem tkX12_laysAside_12 : ttX12_laysAside_12.all (g_cE 12 false cX12_laysAside) = true := g_cF_l (by decide +kernel)
theorem tkX12_laysAside : ttX12_laysAside.all (fun r => r.2.all (g_cE 12 false cX12_laysAside)) = true := by
  unfold ttX12_laysAside
  simp only [List.all_cons, List.all_nil, Bool.and_true, Bool.and_eq_true]
  exact ⟨tkX12_laysAside_0, tkX12_laysAside_1, tkX12_laysAside_2, tkX12_laysAside_3, tkX12_laysAside_4, tkX12_laysAside_5, tkX12_laysAside_6, tkX12_laysAside_7, tkX12_laysAside_8, tkX12_laysAside_9, tkX12_laysAside_10, tkX12_laysAside_11, tkX12_laysAside_12⟩
set_option maxRecDepth 100000 in
theorem tkX12_bringsBack_0 : ttX12_bringsBack_0.all (g_cE 12 false cX12_bringsBack) = true := g_cF_l (by decide +kernel)
set_option maxRecDepth 100000 in
theorem tkX12_bringsBack_1 : ttX12_bringsBack_1.all (g_cE 12 false cX12_bringsBack) = true := g_cF_l (by decide +kernel)
set_option maxRecDepth 100000 in
theorem tkX12_bringsBack_2 : ttX12_bringsBack_2.all (g_cE 12 false cX12_bringsBack) = true := g_cF_l (by decide +kernel)
set_option maxRecDepth 100000 in
theorem tkX12_bringsBack_3 : ttX12_bringsBack_3.all (g_cE 12 false cX12_bringsBack) = true := g_cF_l (by decide +kernel)
set_option maxRecDepth 100000 in
theorem tkX12_bringsBack_4 : ttX12_bringsBack_4.all (g_cE 12 false cX12_bringsBack) = true := g_cF_l (by decide +kernel)
set_option maxRecDepth 100000 in
theorem tkX12_bringsBack_5 : ttX12_bringsBack_5.all (g_cE 12 false cX12_bringsBack) = true := g_cF_l (by decide +kernel)
set_option maxRecDepth 100000 in
theorem tkX12_bringsBack_6 : ttX12_bringsBack_6.all (g_cE 12 false cX12_bringsBack) = true := g_cF_l (by decide +kernel)
set_option maxRecDepth 100000 in
theorem tkX12_bringsBack_7 : ttX12_bringsBack_7.all (g_cE 12 false cX12_bringsBack) = true := g_cF_l (by decide +kernel)
set_option maxRecDepth 100000 in
theorem tkX12_bringsBack_8 : ttX12_bringsBack_8.all (g_cE 12 false cX12_bringsBack) = true := g_cF_l (by decide +kernel)
set_option maxRecDepth 100000 in
theorem tkX12_bringsBack_9 : ttX12_bringsBack_9.all (g_cE 12 false cX12_bringsBack) = true := g_cF_l (by decide +kernel)
set_option maxRecDepth 100000 in
theorem tkX12_bringsBack_10 : ttX12_bringsBack_10.all (g_cE 12 false cX12_bringsBack) = true := g_cF_l (by decide +kernel)
set_option maxRecDepth 100000 in
theorem tkX12_bringsBack_11 : ttX12_bringsBack_11.all (g_cE 12 false cX12_bringsBack) = true := g_cF_l (by decide +kernel)
set_option maxRecDepth 100000 in
theorem tkX12_bringsBack_12 : ttX12_bringsBack_12.all (g_cE 12 false cX12_bringsBack) = true := g_cF_l (by decide +kernel)
set_option maxRecDepth 100000 in
theorem tkX12_bringsBack_13 : ttX12_bringsBack_13.all (g_cE 12 false cX12_bringsBack) = true := g_cF_l (by decide +kernel)
set_option maxRecDepth 100000 in
theorem tkX12_bringsBack_14 : ttX12_bringsBack_14.all (g_cE 12 false cX12_bringsBack) = true := g_cF_l (by decide +kernel)
theorem tkX12_bringsBack : ttX12_bringsBack.all (fun r => r.2.all (g_cE 12 false cX12_bringsBack)) = true := by
  unfold ttX12_bringsBack
  simp only [List.all_cons, List.all_nil, Bool.and_true, Bool.and_eq_true]
  exact ⟨tkX12_bringsBack_0, tkX12_bringsBack_1, tkX12_bringsBack_2, tkX12_bringsBack_3, tkX12_bringsBack_4, tkX12_bringsBack_5, tkX12_bringsBack_6, tkX12_bringsBack_7, tkX12_bringsBack_8, tkX12_bringsBack_9, tkX12_bringsBack_10, tkX12_bringsBack_11, tkX12_bringsBack_12, tkX12_bringsBack_13, tkX12_bringsBack_14⟩
set_option maxRecDepth 100000 in
theorem tkX12_tried : ttX12_tried.all (fun r => r.2.all (g_cE 12 false cX12_tried)) = true := g_cF_ll (by decide +kernel)
end Prt16k
section Prt16l
set_option maxRecDepth 100000 in
theorem tkX12_orLess : ttX12_orLess.all (fun r => r.2.all (g_cE 12 false cX12_orLess)) = true := g_cF_ll (by decide +kernel)
set_option maxRecDepth 100000 in
theorem tkX12_gustIs : ttX12_gustIs.all (fun r => r.2.all (g_cE 12 false cX12_gustIs)) = true := g_cF_ll (by decide +kernel)
set_option maxRecDepth 100000 in
theorem tkX12_setIn : ttX12_setIn.all (fun r => r.2.all (g_cE 12 false cX12_setIn)) = true := g_cF_ll (by decide +kernel)
set_option maxRecDepth 100000 in
theorem tkX12_brokenIn : ttX12_brokenIn.all (fun r => r.2.all (g_cE 12 false cX12_brokenIn)) = true := g_cF_ll (by decide +kernel)
set_option maxRecDepth 100000 in
theorem tkX12_wardIs : ttX12_wardIs.all (fun r => r.2.all (g_cE 12 false cX12_wardIs)) = true := g_cF_ll (by decide +kernel)
set_option maxRecDepth 100000 in
theorem tkX12_nurseIs : ttX12_nurseIs.all (fun r => r.2.all (g_cE 12 false cX12_nurseIs)) = true := g_cF_ll (by decide +kernel)
set_option maxRecDepth 100000 in
theorem tkX12_quarrel : ttX12_quarrel.all (fun r => r.2.all (g_cE 12 false cX12_quarrel)) = true := g_cF_ll (by decide +kernel)
set_option maxRecDepth 100000 in
theorem tkX12_toldGusts : ttX12_toldGusts.all (fun r => r.2.all (g_cE 12 false cX12_toldGusts)) = true := g_cF_ll (by decide +kernel)
set_option maxRecDepth 100000 in
theorem tkX12_areGusts : ttX12_areGusts.all (fun r => r.2.all (g_cE 12 false cX12_areGusts)) = true := g_cF_ll (by decide +kernel)
set_option maxRecDepth 100000 in
theorem tkX12_takesSome : ttX12_takesSome.all (fun r => r.2.all (g_cE 12 false cX12_takesSome)) = true := g_cF_ll (by decide +kernel)
set_option maxRecDepth 100000 in
theorem tkX12_placeIn : ttX12_placeIn.all (fun r => r.2.all (g_cE 12 false cX12_placeIn)) = true := g_cF_ll (by decide +kernel)
set_option maxRecDepth 100000 in
theorem tkX12_powerOf : ttX12_powerOf.all (fun r => r.2.all (g_cE 12 false cX12_powerOf)) = true := g_cF_ll (by decide +kernel)
set_option maxRecDepth 100000 in
theorem tkX12_opensRow : ttX12_opensRow.all (fun r => r.2.all (g_cE 12 false cX12_opensRow)) = true := g_cF_ll (by decide +kernel)
set_option maxRecDepth 100000 in
theorem tkX12_keepsRow : ttX12_keepsRow.all (fun r => r.2.all (g_cE 12 false cX12_keepsRow)) = true := g_cF_ll (by decide +kernel)
set_option maxRecDepth 100000 in
theorem tkX12_takesPlaces : ttX12_takesPlaces.all (fun r => r.2.all (g_cE 12 false cX12_takesPlaces)) = true := g_cF_ll (by decide +kernel)
set_option maxRecDepth 100000 in
theorem tkX12_isRoomFor : ttX12_isRoomFor.all (fun r => r.2.all (g_cE 12 false cX12_isRoomFor)) = true := g_cF_ll (by decide +kernel)
set_option maxRecDepth 100000 in
theorem tkX12_twosIn : ttX12_twosIn.all (fun r => r.2.all (g_cE 12 false cX12_twosIn)) = true := g_cF_ll (by decide +kernel)
set_option maxRecDepth 100000 in
theorem tkX12_housed : ttX12_housed.all (fun r => r.2.all (g_cE 12 false cX12_housed)) = true := g_cF_ll (by decide +kernel)
set_option maxRecDepth 100000 in
theorem tkX12_wind : ttX12_wind.all (fun r => r.2.all (g_cE 12 false cX12_wind)) = true := g_cF_ll (by decide +kernel)
set_option maxRecDepth 100000 in
theorem tkX12_canGo : ttX12_canGo.all (fun r => r.2.all (g_cE 12 false cX12_canGo)) = true := g_cF_ll (by decide +kernel)
set_option maxRecDepth 100000 in
theorem tkX12_canLeave_0 : ttX12_canLeave_0.all (g_cE 12 false cX12_canLeave) = true := g_cF_l (by decide +kernel)
set_option maxRecDepth 100000 in
theorem tkX12_canLeave_1 : ttX12_canLeave_1.all (g_cE 12 false cX12_canLeave) = true := g_cF_l (by decide +kernel)
set_option maxRecDepth 100000 in
theorem tkX12_canLeave_2 : ttX12_canLeave_2.all (g_cE 12 false cX12_canLeave) = true := g_cF_l (by decide +kernel)
set_option maxRecDepth 100000 in
theorem tkX12_canLeave_3 : ttX12_canLeave_3.all (g_cE 12 false cX12_canLeave) = true := g_cF_l (by decide +kernel)
set_option maxRecDepth 100000 in
theorem tkX12_canLeave_4 : ttX12_canLeave_4.all (g_cE 12 false cX12_canLeave) = true := g_cF_l (by decide +kernel)
set_option maxRecDepth 100000 in
theorem tkX12_canLeave_5 : ttX12_canLeave_5.all (g_cE 12 false cX12_canLeave) = true := g_cF_l (by decide +kernel)
set_option maxRecDepth 100000 in
theorem tkX12_canLeave_6 : ttX12_canLeave_6.all (g_cE 12 false cX12_canLeave) = true := g_cF_l (by decide +kernel)
set_option maxRecDepth 100000 in
theorem tkX12_canLeave_7 : ttX12_canLeave_7.all (g_cE 12 false cX12_canLeave) = true := g_cF_l (by decide +kernel)
set_option maxRecDepth 100000 in
theorem tkX12_canLeave_8 : ttX12_canLeave_8.all (g_cE 12 false cX12_canLeave) = true := g_cF_l (by decide +kernel)
set_option maxRecDepth 100000 in
theorem tkX12_canLeave_9 : ttX12_canLeave_9.all (g_cE 12 false cX12_canLeave) = true := g_cF_l (by decide +kernel)
set_option maxRecDepth 100000 in
theorem tkX12_canLeave_10 : ttX12_canLeave_10.all (g_cE 12 false cX12_canLeave) = true := g_cF_l (by decide +kernel)
set_option maxRecDepth 100000 in
theorem tkX12_canLeave_11 : ttX12_canLeave_11.all (g_cE 12 false cX12_canLeave) = true := g_cF_l (by decide +kernel)
theorem tkX12_canLeave : ttX12_canLeave.all (fun r => r.2.all (g_cE 12 false cX12_canLeave)) = true := by
  unfold ttX12_canLeave
  simp only [List.all_cons, List.all_nil, Bool.and_true, Bool.and_eq_true]
  exact ⟨tkX12_canLeave_0, tkX12_canLeave_1, tkX12_canLeave_2, tkX12_canLeave_3, tkX12_canLeave_4, tkX12_canLeave_5, tkX12_canLeave_6, tkX12_canLeave_7, tkX12_canLeave_8, tkX12_canLeave_9, tkX12_canLeave_10, tkX12_canLeave_11⟩
set_option maxRecDepth 100000 in
theorem tkX12_laysLeaving : ttX12_laysLeaving.all (fun r => r.2.all (g_cE 12 false cX12_laysLeaving)) = true := g_cF_ll (by decide +kernel)
set_option maxRecDepth 100000 in
theorem tkX12_leaving : ttX12_leaving.all (fun r => r.2.all (g_cE 12 false cX12_leaving)) = true := g_cF_ll (by decide +kernel)
set_option maxRecDepth 100000 in
theorem tkX12_letGo : ttX12_letGo.all (fun r => r.2.all (g_cE 12 false cX12_letGo)) = true := g_cF_ll (by decide +kernel)
set_option maxRecDepth 100000 in
theorem tkX12_home : ttX12_home.all (fun r => r.2.all (g_cE 12 false cX12_home)) = true := g_cF_ll (by decide +kernel)
set_option maxRecDepth 100000 in
theorem tkX12_homesFor : ttX12_homesFor.all (fun r => r.2.all (g_cE 12 false cX12_homesFor)) = true := g_cF_ll (by decide +kernel)
set_option maxRecDepth 100000 in
theorem tkX12_greaterPart : ttX12_greaterPart.all (fun r => r.2.all (g_cE 12 false cX12_greaterPart)) = true := g_cF_ll (by decide +kernel)
set_option maxRecDepth 100000 in
theorem tkX12_from : ttX12_from.all (fun r => r.2.all (g_cE 12 false cX12_from)) = true := g_cF_ll (by decide +kernel)
end Prt16l
section Prt16m
set_option maxRecDepth 100000 in
theorem tkX12_laysLessons_0 : ttX12_laysLessons_0.all (g_cE 12 false cX12_laysLessons) = true := g_cF_l (by decide +kernel)
set_option maxRecDepth 100000 in
theorem tkX12_laysLessons_1 : ttX12_laysLessons_1.all (g_cE 12 false cX12_laysLessons) = true := g_cF_l (by decide +kernel)
set_option maxRecDepth 100000 in
theorem tkX12_laysLessons_2 : ttX12_laysLessons_2.all (g_cE 12 false cX12_laysLessons) = true := g_cF_l (by decide +kernel)
set_option maxRecDepth 100000 in
theorem tkX12_laysLessons_3 : ttX12_laysLessons_3.all (g_cE 12 false cX12_laysLessons) = true := g_cF_l (by decide +kernel)
set_option maxRecDepth 100000 in
theorem tkX12_laysLessons_4 : ttX12_laysLessons_4.all (g_cE 12 false cX12_laysLessons) = true := g_cF_l (by decide +kernel)
set_option maxRecDepth 100000 in
theorem tkX12_laysLessons_5 : ttX12_laysLessons_5.all (g_cE 12 false cX12_laysLessons) = true := g_cF_l (by decide +kernel)
set_option maxRecDepth 100000 in
theorem tkX12_laysLessons_6 : ttX12_laysLessons_6.all (g_cE 12 false cX12_laysLessons) = true := g_cF_l (by decide +kernel)
set_option maxRecDepth 100000 in
theorem tkX12_laysLessons_7 : ttX12_laysLessons_7.all (g_cE 12 false cX12_laysLessons) = true := g_cF_l (by decide +kernel)
set_option maxRecDepth 100000 in
theorem tkX12_laysLessons_8 : ttX12_laysLessons_8.all (g_cE 12 false cX12_laysLessons) = true := g_cF_l (by decide +kernel)
set_option maxRecDepth 100000 in
theorem tkX12_laysLessons_9 : ttX12_laysLessons_9.all (g_cE 12 false cX12_laysLessons) = true := g_cF_l (by decide +kernel)
theorem tkX12_laysLessons : ttX12_laysLessons.all (fun r => r.2.all (g_cE 12 false cX12_laysLessons)) = true := by
  unfold ttX12_laysLessons
  simp only [List.all_cons, List.all_nil, Bool.and_true, Bool.and_eq_true]
  exact ⟨tkX12_laysLessons_0, tkX12_laysLessons_1, tkX12_laysLessons_2, tkX12_laysLessons_3, tkX12_laysLessons_4, tkX12_laysLessons_5, tkX12_laysLessons_6, tkX12_laysLessons_7, tkX12_laysLessons_8, tkX12_laysLessons_9⟩
set_option maxRecDepth 100000 in
theorem tkX12_taught : ttX12_taught.all (fun r => r.2.all (g_cE 12 false cX12_taught)) = true := g_cF_ll (by decide +kernel)
set_option maxRecDepth 100000 in
theorem tkX12_house : ttX12_house.all (fun r => r.2.all (g_cE 12 false cX12_house)) = true := g_cF_ll (by decide +kernel)
set_option maxRecDepth 100000 in
theorem tkX12_isHigher : ttX12_isHigher.all (fun r => r.2.all (g_cE 12 false cX12_isHigher)) = true := g_cF_ll (by decide +kernel)
set_option maxRecDepth 100000 in
theorem tkX12_isLiked : ttX12_isLiked.all (fun r => r.2.all (g_cE 12 false cX12_isLiked)) = true := g_cF_ll (by decide +kernel)
set_option maxRecDepth 100000 in
theorem tkX12_asksNext : ttX12_asksNext.all (fun r => r.2.all (g_cE 12 false cX12_asksNext)) = true := g_cF_ll (by decide +kernel)
set_option maxRecDepth 100000 in
theorem tkX12_isAnywhere : ttX12_isAnywhere.all (fun r => r.2.all (g_cE 12 false cX12_isAnywhere)) = true := g_cF_ll (by decide +kernel)
set_option maxRecDepth 100000 in
theorem tkX12_laysPlaces : ttX12_laysPlaces.all (fun r => r.2.all (g_cE 12 false cX12_laysPlaces)) = true := g_cF_ll (by decide +kernel)
set_option maxRecDepth 100000 in
theorem tkX12_placed : ttX12_placed.all (fun r => r.2.all (g_cE 12 false cX12_placed)) = true := g_cF_ll (by decide +kernel)
set_option maxRecDepth 100000 in
theorem tkX12_fair_0 : ttX12_fair_0.all (g_cE 12 false cX12_fair) = true := g_cF_l (by decide +kernel)
set_option maxRecDepth 100000 in
theorem tkX12_fair_1 : ttX12_fair_1.all (g_cE 12 false cX12_fair) = true := g_cF_l (by decide +kernel)
set_option maxRecDepth 100000 in
theorem tkX12_fair_2 : ttX12_fair_2.all (g_cE 12 false cX12_fair) = true := g_cF_l (by decide +kernel)
set_option maxRecDepth 100000 in
theorem tkX12_fair_3 : ttX12_fair_3.all (g_cE 12 false cX12_fair) = true := g_cF_l (by decide +kernel)
set_option maxRecDepth 100000 in
theorem tkX12_fair_4 : ttX12_fair_4.all (g_cE 12 false cX12_fair) = true := g_cF_l (by decide +kernel)
set_option maxRecDepth 100000 in
theorem tkX12_fair_5 : ttX12_fair_5.all (g_cE 12 false cX12_fair) = true := g_cF_l (by decide +kernel)
set_option maxRecDepth 100000 in
theorem tkX12_fair_6 : ttX12_fair_6.all (g_cE 12 false cX12_fair) = true := g_cF_l (by decide +kernel)
set_option maxRecDepth 100000 in
theorem tkX12_fair_7 : ttX12_fair_7.all (g_cE 12 false cX12_fair) = true := g_cF_l (by decide +kernel)
set_option maxRecDepth 100000 in
theorem tkX12_fair_8 : ttX12_fair_8.all (g_cE 12 false cX12_fair) = true := g_cF_l (by decide +kernel)
set_option maxRecDepth 100000 in
theorem tkX12_fair_9 : ttX12_fair_9.all (g_cE 12 false cX12_fair) = true := g_cF_l (by decide +kernel)
set_option maxRecDepth 100000 in
theorem tkX12_fair_10 : ttX12_fair_10.all (g_cE 12 false cX12_fair) = true := g_cF_l (by decide +kernel)
theorem tkX12_fair : ttX12_fair.all (fun r => r.2.all (g_cE 12 false cX12_fair)) = true := by
  unfold ttX12_fair
  simp only [List.all_cons, List.all_nil, Bool.and_true, Bool.and_eq_true]
  exact ⟨tkX12_fair_0, tkX12_fair_1, tkX12_fair_2, tkX12_fair_3, tkX12_fair_4, tkX12_fair_5, tkX12_fair_6, tkX12_fair_7, tkX12_fair_8, tkX12_fair_9, tkX12_fair_10⟩
set_option maxRecDepth 100000 in
theorem tkX12_lower : ttX12_lower.all (fun r => r.2.all (g_cE 12 false cX12_lower)) = true := g_cF_ll (by decide +kernel)
set_option maxRecDepth 100000 in
theorem tkX12_higher : ttX12_higher.all (fun r => r.2.all (g_cE 12 false cX12_higher)) = true := g_cF_ll (by decide +kernel)
set_option maxRecDepth 100000 in
theorem tkX12_hourOf : ttX12_hourOf.all (fun r => r.2.all (g_cE 12 false cX12_hourOf)) = true := g_cF_ll (by decide +kernel)
set_option maxRecDepth 100000 in
theorem tkX12_laysAhead : ttX12_laysAhead.all (fun r => r.2.all (g_cE 12 false cX12_laysAhead)) = true := g_cF_ll (by decide +kernel)
set_option maxRecDepth 100000 in
theorem tkX12_laysBehind : ttX12_laysBehind.all (fun r => r.2.all (g_cE 12 false cX12_laysBehind)) = true := g_cF_ll (by decide +kernel)
set_option maxRecDepth 100000 in
theorem tkX12_escaped_0 : ttX12_escaped_0.all (g_cE 12 false cX12_escaped) = true := g_cF_l (by decide +kernel)
set_option maxRecDepth 100000 in
theorem tkX12_escaped_1 : ttX12_escaped_1.all (g_cE 12 false cX12_escaped) = true := g_cF_l (by decide +kernel)
set_option maxRecDepth 100000 in
theorem tkX12_escaped_2 : ttX12_escaped_2.all (g_cE 12 false cX12_escaped) = true := g_cF_l (by decide +kernel)
set_option maxRecDepth 100000 in
theorem tkX12_escaped_3 : ttX12_escaped_3.all (g_cE 12 false cX12_escaped) = true := g_cF_l (by decide +kernel)
end Prt16m
section Prt16n
set_option maxRecDepth 100000 in
theorem tkX12_escaped_4 : ttX12_escaped_4.all (g_cE 12 false cX12_escaped) = true := g_cF_l (by decide +kernel)
set_option maxRecDepth 100000 in
theorem tkX12_escaped_5 : ttX12_escaped_5.all (g_cE 12 false cX12_escaped) = true := g_cF_l (by decide +kernel)
set_option maxRecDepth 100000 in
theorem tkX12_escaped_6 : ttX12_escaped_6.all (g_cE 12 false cX12_escaped) = true := g_cF_l (by decide +kernel)
set_option maxRecDepth 100000 in
theorem tkX12_escaped_7 : ttX12_escaped_7.all (g_cE 12 false cX12_escaped) = true := g_cF_l (by decide +kernel)
set_option maxRecDepth 100000 in
theorem tkX12_escaped_8 : ttX12_escaped_8.all (g_cE 12 false cX12_escaped) = true := g_cF_l (by decide +kernel)
set_option maxRecDepth 100000 in
theorem tkX12_escaped_9 : ttX12_escaped_9.all (g_cE 12 false cX12_escaped) = true := g_cF_l (by decide +kernel)
set_option maxRecDepth 100000 in
theorem tkX12_escaped_10 : ttX12_escaped_10.all (g_cE 12 false cX12_escaped) = true := g_cF_l (by decide +kernel)
set_option maxRecDepth 100000 in
theorem tkX12_escaped_11 : ttX12_escaped_11.all (g_cE 12 false cX12_escaped) = true := g_cF_l (by decide +kernel)
set_option maxRecDepth 100000 in
theorem tkX12_escaped_12 : ttX12_escaped_12.all (g_cE 12 false cX12_escaped) = true := g_cF_l (by decide +kernel)
set_option maxRecDepth 100000 in
theorem tkX12_escaped_13 : ttX12_escaped_13.all (g_cE 12 false cX12_escaped) = true := g_cF_l (by decide +kernel)
set_option maxRecDepth 100000 in
theorem tkX12_escaped_14 : ttX12_escaped_14.all (g_cE 12 false cX12_escaped) = true := g_cF_l (by decide +kernel)
set_option maxRecDepth 100000 in
theorem tkX12_escaped_15 : ttX12_escaped_15.all (g_cE 12 false cX12_escaped) = true := g_cF_l (by decide +kernel)
set_option maxRecDepth 100000 in
theorem tkX12_escaped_16 : ttX12_escaped_16.all (g_cE 12 false cX12_escaped) = true := g_cF_l (by decide +kernel)
theorem tkX12_escaped : ttX12_escaped.all (fun r => r.2.all (g_cE 12 false cX12_escaped)) = true := by
  unfold ttX12_escaped
  simp only [List.all_cons, List.all_nil, Bool.and_true, Bool.and_eq_true]
  exact ⟨tkX12_escaped_0, tkX12_escaped_1, tkX12_escaped_2, tkX12_escaped_3, tkX12_escaped_4, tkX12_escaped_5, tkX12_escaped_6, tkX12_escaped_7, tkX12_escaped_8, tkX12_escaped_9, tkX12_escaped_10, tkX12_escaped_11, tkX12_escaped_12, tkX12_escaped_13, tkX12_escaped_14, tkX12_escaped_15, tkX12_escaped_16⟩
set_option maxRecDepth 100000 in
theorem tkX12_isOrder : ttX12_isOrder.all (fun r => r.2.all (g_cE 12 false cX12_isOrder)) = true := g_cF_ll (by decide +kernel)
set_option maxRecDepth 100000 in
theorem tkX12_toldNurses : ttX12_toldNurses.all (fun r => r.2.all (g_cE 12 false cX12_toldNurses)) = true := g_cF_ll (by decide +kernel)
set_option maxRecDepth 100000 in
theorem tkX12_nursed_0 : ttX12_nursed_0.all (g_cE 12 false cX12_nursed) = true := g_cF_l (by decide +kernel)
set_option maxRecDepth 100000 in
theorem tkX12_nursed_1 : ttX12_nursed_1.all (g_cE 12 false cX12_nursed) = true := g_cF_l (by decide +kernel)
set_option maxRecDepth 100000 in
theorem tkX12_nursed_2 : ttX12_nursed_2.all (g_cE 12 false cX12_nursed) = true := g_cF_l (by decide +kernel)
set_option maxRecDepth 100000 in
theorem tkX12_nursed_3 : ttX12_nursed_3.all (g_cE 12 false cX12_nursed) = true := g_cF_l (by decide +kernel)
set_option maxRecDepth 100000 in
theorem tkX12_nursed_4 : ttX12_nursed_4.all (g_cE 12 false cX12_nursed) = true := g_cF_l (by decide +kernel)
set_option maxRecDepth 100000 in
theorem tkX12_nursed_5 : ttX12_nursed_5.all (g_cE 12 false cX12_nursed) = true := g_cF_l (by decide +kernel)
set_option maxRecDepth 100000 in
theorem tkX12_nursed_6 : ttX12_nursed_6.all (g_cE 12 false cX12_nursed) = true := g_cF_l (by decide +kernel)
set_option maxRecDepth 100000 in
theorem tkX12_nursed_7 : ttX12_nursed_7.all (g_cE 12 false cX12_nursed) = true := g_cF_l (by decide +kernel)
set_option maxRecDepth 100000 in
theorem tkX12_nursed_8 : ttX12_nursed_8.all (g_cE 12 false cX12_nursed) = true := g_cF_l (by decide +kernel)
set_option maxRecDepth 100000 in
theorem tkX12_nursed_9 : ttX12_nursed_9.all (g_cE 12 false cX12_nursed) = true := g_cF_l (by decide +kernel)
theorem tkX12_nursed : ttX12_nursed.all (fun r => r.2.all (g_cE 12 false cX12_nursed)) = true := by
  unfold ttX12_nursed
  simp only [List.all_cons, List.all_nil, Bool.and_true, Bool.and_eq_true]
  exact ⟨tkX12_nursed_0, tkX12_nursed_1, tkX12_nursed_2, tkX12_nursed_3, tkX12_nursed_4, tkX12_nursed_5, tkX12_nursed_6, tkX12_nursed_7, tkX12_nursed_8, tkX12_nursed_9⟩
set_option maxRecDepth 100000 in
theorem tkX12_laysRing_0 : ttX12_laysRing_0.all (g_cE 12 false cX12_laysRing) = true := g_cF_l (by decide +kernel)
set_option maxRecDepth 100000 in
theorem tkX12_laysRing_1 : ttX12_laysRing_1.all (g_cE 12 false cX12_laysRing) = true := g_cF_l (by decide +kernel)
set_option maxRecDepth 100000 in
theorem tkX12_laysRing_2 : ttX12_laysRing_2.all (g_cE 12 false cX12_laysRing) = true := g_cF_l (by decide +kernel)
set_option maxRecDepth 100000 in
theorem tkX12_laysRing_3 : ttX12_laysRing_3.all (g_cE 12 false cX12_laysRing) = true := g_cF_l (by decide +kernel)
set_option maxRecDepth 100000 in
theorem tkX12_laysRing_4 : ttX12_laysRing_4.all (g_cE 12 false cX12_laysRing) = true := g_cF_l (by decide +kernel)
set_option maxRecDepth 100000 in
theorem tkX12_laysRing_5 : ttX12_laysRing_5.all (g_cE 12 false cX12_laysRing) = true := g_cF_l (by decide +kernel)
set_option maxRecDepth 100000 in
theorem tkX12_laysRing_6 : ttX12_laysRing_6.all (g_cE 12 false cX12_laysRing) = true := g_cF_l (by decide +kernel)
set_option maxRecDepth 100000 in
theorem tkX12_laysRing_7 : ttX12_laysRing_7.all (g_cE 12 false cX12_laysRing) = true := g_cF_l (by decide +kernel)
set_option maxRecDepth 100000 in
theorem tkX12_laysRing_8 : ttX12_laysRing_8.all (g_cE 12 false cX12_laysRing) = true := g_cF_l (by decide +kernel)
set_option maxRecDepth 100000 in
theorem tkX12_laysRing_9 : ttX12_laysRing_9.all (g_cE 12 false cX12_laysRing) = true := g_cF_l (by decide +kernel)
set_option maxRecDepth 100000 in
theorem tkX12_laysRing_10 : ttX12_laysRing_10.all (g_cE 12 false cX12_laysRing) = true := g_cF_l (by decide +kernel)
theorem tkX12_laysRing : ttX12_laysRing.all (fun r => r.2.all (g_cE 12 false cX12_laysRing)) = true := by
  unfold ttX12_laysRing
  simp only [List.all_cons, List.all_nil, Bool.and_true, Bool.and_eq_true]
  exact ⟨tkX12_laysRing_0, tkX12_laysRing_1, tkX12_laysRing_2, tkX12_laysRing_3, tkX12_laysRing_4, tkX12_laysRing_5, tkX12_laysRing_6, tkX12_laysRing_7, tkX12_laysRing_8, tkX12_laysRing_9, tkX12_laysRing_10⟩
set_option maxRecDepth 100000 in
theorem tkX12_round : ttX12_round.all (fun r => r.2.all (g_cE 12 false cX12_round)) = true := g_cF_ll (by decide +kernel)
end Prt16n
section Prt16o
set_option maxRecDepth 100000 in
theorem tkX12_partOf : ttX12_partOf.all (fun r => r.2.all (g_cE 12 false cX12_partOf)) = true := g_cF_ll (by decide +kernel)
set_option maxRecDepth 100000 in
theorem tkX12_added : ttX12_added.all (fun r => r.2.all (g_cE 12 false cX12_added)) = true := g_cF_ll (by decide +kernel)
set_option maxRecDepth 100000 in
theorem tkX12_seed : ttX12_seed.all (fun r => r.2.all (g_cE 12 false cX12_seed)) = true := g_cF_ll (by decide +kernel)
set_option maxRecDepth 100000 in
theorem tkX12_keep : ttX12_keep.all (fun r => r.2.all (g_cE 12 false cX12_keep)) = true := g_cF_ll (by decide +kernel)
set_option maxRecDepth 100000 in
theorem tkX12_undo : ttX12_undo.all (fun r => r.2.all (g_cE 12 false cX12_undo)) = true := g_cF_ll (by decide +kernel)
set_option maxRecDepth 100000 in
theorem tkX12_check : ttX12_check.all (fun r => r.2.all (g_cE 12 false cX12_check)) = true := g_cF_ll (by decide +kernel)
set_option maxRecDepth 100000 in
theorem tkX12_toldOf : ttX12_toldOf.all (fun r => r.2.all (g_cE 12 false cX12_toldOf)) = true := g_cF_ll (by decide +kernel)
set_option maxRecDepth 100000 in
theorem tkX12_count : ttX12_count.all (fun r => r.2.all (g_cE 12 false cX12_count)) = true := g_cF_ll (by decide +kernel)
set_option maxRecDepth 100000 in
theorem tkJ6_bitCount_0f7a4 : ttJ6_bitCount_0f7a4.all (fun r => r.2.all (g_cE 14 false cJ6_bitCount_0f7a4)) = true := g_cF_ll (by decide +kernel)
set_option maxRecDepth 100000 in
theorem tkJ7_fill_53178 : ttJ7_fill_53178.all (fun r => r.2.all (g_cE 16 false cJ7_fill_53178)) = true := g_cF_ll (by decide +kernel)
end Prt16o
section Prt17
noncomputable def g_PT (f : Nat × Nat × Nat × Nat × Nat × Nat × Nat × Nat × Nat × Nat) (M : g_M) : Prop := f.1 ≠ 9 ∧ g_Tok g_mt M
theorem g_F2f {f : Nat × Nat × Nat × Nat × Nat × Nat × Nat × Nat × Nat × Nat} {oc : Nat} {y : MethodName} {c : ByteArray} {mx : Nat} {rt : Option FieldType} {tt : List (Nat × List (Nat × g_En))} {l : List (Nat × Nat × Nat × Nat × Nat × Nat × Nat × Nat × Nat × Nat)} {m : List g_M} (h9 : (f.1 == 9) = false) (h : tt.all (fun r => r.2.all (g_cE oc false c)) = true) (t : g_F2 g_PT l m) : g_F2 g_PT (f :: l) ((g_cn oc, y, c, mx, rt, g_look2 tt) :: m) := g_F2c ⟨fun e => by simp [e] at h9, g_tok_of (ini := false) (fun h => by cases h) h⟩ t
theorem g_F2g {f : Nat × Nat × Nat × Nat × Nat × Nat × Nat × Nat × Nat × Nat} {oc : Nat} {y : MethodName} {c : ByteArray} {mx : Nat} {rt : Option FieldType} {tt : List (Nat × List (Nat × g_En))} {l : List (Nat × Nat × Nat × Nat × Nat × Nat × Nat × Nat × Nat × Nat)} {m : List g_M} (h9 : (f.1 == 9) = false) (hy : y.name = "<init>") (h : tt.all (fun r => r.2.all (g_cE oc true c)) = true) (t : g_F2 g_PT l m) : g_F2 g_PT (f :: l) ((g_cn oc, y, c, mx, rt, g_look2 tt) :: m) := g_F2c ⟨fun e => by simp [e] at h9, g_tok_of (ini := true) (fun _ => hy) h⟩ t
set_option maxRecDepth 100000 in
theorem g_MT_2 : g_F2 g_PT g_MF.tail g_ml.tail := by
  refine g_F2s ?_
  refine g_F2g rfl rfl tkX0_init ?_
  refine g_F2f rfl tkX0_go ?_
  refine g_F2f rfl tkX0_pass ?_
  refine g_F2f rfl tkX0_weaken ?_
  refine g_F2f rfl tkX0_strengthen ?_
  refine g_F2f rfl tkX0_teach ?_
  refine g_F2f rfl tkX0_breakToys ?_
  refine g_F2f rfl tkX0_quarrelAll ?_
  refine g_F2f rfl tkX0_recover ?_
  refine g_F2f rfl tkX0_sicken ?_
  refine g_F2f rfl tkX0_askRules ?_
  refine g_F2g rfl rfl tkX1_init ?_
  refine g_F2f rfl tkX1_clear ?_
  refine g_F2f rfl tkX1_openClause ?_
  refine g_F2f rfl tkX1_openCondition ?_
  refine g_F2f rfl tkX1_closeClause ?_
  refine g_F2f rfl tkX1_put ?_
  refine g_F2f rfl tkX1_land ?_
  refine g_F2f rfl tkX1_run ?_
  refine g_F2f rfl tkX1_valueAt ?_
  refine g_F2f rfl tkX1_join ?_
  refine g_F2g rfl rfl tkX2_init ?_
  refine g_F2f rfl tkX2_keeperOf ?_
  refine g_F2f rfl tkX2_readRow ?_
  refine g_F2f rfl tkX2_envious ?_
  refine g_F2f rfl tkX2_highest ?_
  refine g_F2f rfl tkX2_dearest ?_
  refine g_F2f rfl tkX2_higher ?_
  refine g_F2f rfl tkX2_dearer ?_
  refine g_F2g rfl rfl tkX3_init ?_
  refine g_F2f rfl tkX3_exchangeLaw ?_
  refine g_F2f rfl tkX3_exchangeRules ?_
  refine g_F2f rfl tkX3_clauses ?_
  refine g_F2f rfl tkX3_ruleCount ?_
  refine g_F2f rfl tkX3_ofGust ?_
  refine g_F2f rfl tkX3_learns ?_
  refine g_F2f rfl tkX3_atOdds ?_
  refine g_F2f rfl tkX3_illness ?_
  refine g_F2f rfl tkX3_firstBroken ?_
  refine g_F2f rfl tkX3_lookAtGust ?_
  refine g_F2f rfl tkX3_lookAtTwo ?_
  refine g_F2f rfl tkX3_lookAtWard ?_
  refine g_F2f rfl tkX3_firstAmount ?_
  refine g_F2f rfl tkX3_anyHolds ?_
  refine g_F2g rfl rfl tkX4_init ?_
  refine g_F2f rfl tkX4_lodge ?_
  refine g_F2f rfl tkX4_staff ?_
  refine g_F2f rfl tkX4_chosenFor ?_
  refine g_F2f rfl tkX4_ring ?_
  refine g_F2f rfl tkX4_ringAt ?_
  refine g_F2f rfl tkX4_spread ?_
  refine g_F2f rfl tkX4_learnOdds ?_
  refine g_F2f rfl tkX4_lodgeFrom ?_
  refine g_F2f rfl tkX4_staffFrom ?_
  refine g_F2f rfl tkX4_keepRow ?_
  refine g_F2f rfl tkX4_waysOn ?_
  refine g_F2f rfl tkX4_walkFirst ?_
  refine g_F2f rfl tkX4_firstOn ?_
  refine g_F2g rfl rfl tkX5_init ?_
  refine g_F2f rfl tkX5_readText ?_
  refine g_F2f rfl tkX5_readTimetable ?_
  refine g_F2f rfl tkX5_begin ?_
  refine g_F2f rfl tkX5_here ?_
  refine g_F2f rfl tkX5_fail ?_
  refine g_F2f rfl tkX5_expect ?_
  refine g_F2f rfl tkX5_opens ?_
  refine g_F2f rfl tkX5_readClause ?_
  refine g_F2f rfl tkX5_readRule ?_
  refine g_F2f rfl tkX5_readWhole ?_
  refine g_F2f rfl tkX5_readBracket ?_
  refine g_F2f rfl tkX5_readCondition ?_
  refine g_F2f rfl tkX5_readPart ?_
  refine g_F2f rfl tkX5_readTest ?_
  refine g_F2f rfl tkX5_readSum ?_
  refine g_F2f rfl tkX5_readTerm ?_
  refine g_F2f rfl tkX5_readFactor ?_
  refine g_F2f rfl tkX5_readNumber ?_
  refine g_F2f rfl tkX5_readMonths ?_
  refine g_F2f rfl tkX5_readMonth ?_
  refine g_F2f rfl tkX5_readGroup ?_
  refine g_F2f rfl tkX5_writeMonth ?_
  refine g_F2f rfl tkX5_repeat ?_
  refine g_F2g rfl rfl tkX6_init ?_
  refine g_F2f rfl tkX6_order ?_
  refine g_F2f rfl tkX6_withNeeds ?_
  refine g_F2f rfl tkX6_lowestReady ?_
  refine g_F2g rfl rfl tkX7_init ?_
  refine g_F2f rfl tkX7_hasGust ?_
  refine g_F2f rfl tkX7_hasNurse ?_
  refine g_F2f rfl tkX7_works ?_
  refine g_F2f rfl tkX7_inWard ?_
  refine g_F2f rfl tkX7_draw ?_
  refine g_F2f rfl tkX7_copy ?_
  refine g_F2g rfl rfl tkX8_init ?_
  refine g_F2f rfl tkX8_takes ?_
  refine g_F2f rfl tkX8_append ?_
  refine g_F2f rfl tkX8_at ?_
  refine g_F2f rfl tkX8_empty ?_
  refine g_F2g rfl rfl tkX9_init ?_
  refine g_F2f rfl tkX9_learnFrom ?_
  refine g_F2f rfl tkX9_lessonAt ?_
  refine g_F2f rfl tkX9_placeAfter ?_
  refine g_F2g rfl rfl tkX10_init ?_
  refine g_F2f rfl tkX10_sendOff ?_
  refine g_F2f rfl tkX10_windOf ?_
  refine g_F2f rfl tkX10_sendFrom ?_
  refine g_F2f rfl tkX10_mayBeat ?_
  refine g_F2f rfl tkX10_windOfGale ?_
  refine g_F2f rfl tkX10_carries ?_
  refine g_F2g rfl rfl tkX11_init ?_
  refine g_F2f rfl tkX11_gust ?_
  refine g_F2f rfl tkX11_name ?_
  refine g_F2f rfl tkX11_moves ?_
  refine g_F2f rfl tkX11_habit ?_
  refine g_F2f rfl tkX11_ward ?_
  refine g_F2f rfl tkX11_nurse ?_
  refine g_F2f rfl tkX11_needs ?_
  refine g_F2f rfl tkX11_wind ?_
  refine g_F2f rfl tkX11_home ?_
  refine g_F2f rfl tkX11_house ?_
  refine g_F2f rfl tkX11_seed ?_
  refine g_F2f rfl tkX11_feed ?_
  refine g_F2f rfl tkX11_law ?_
  refine g_F2f rfl tkX11_rules ?_
  refine g_F2f rfl tkX11_timetable ?_
  refine g_F2f rfl tkX11_months ?_
  refine g_F2f rfl tkX11_tried ?_
  refine g_F2f rfl tkX11_gustIs ?_
  refine g_F2f rfl tkX11_wardIs ?_
  refine g_F2f rfl tkX11_nurseIs ?_
  refine g_F2f rfl tkX11_quarrel ?_
  refine g_F2f rfl tkX11_count ?_
  refine g_F2f rfl tkX11_added ?_
  refine g_F2f rfl tkX11_housed ?_
  refine g_F2f rfl tkX11_leaving ?_
  refine g_F2f rfl tkX11_letGo ?_
  refine g_F2f rfl tkX11_from ?_
  refine g_F2f rfl tkX11_taught ?_
  refine g_F2f rfl tkX11_placed ?_
  refine g_F2f rfl tkX11_fair ?_
  refine g_F2f rfl tkX11_escaped ?_
  refine g_F2f rfl tkX11_nursed ?_
  refine g_F2f rfl tkX11_round ?_
  refine g_F2f rfl tkX11_keep ?_
  refine g_F2f rfl tkX11_undo ?_
  refine g_F2f rfl tkX11_check ?_
  refine g_F2f rfl tkX11_within ?_
  refine g_F2f rfl tkX11_isIn ?_
  refine g_F2f rfl tkX11_placeIn ?_
  refine g_F2f rfl tkX11_chosen ?_
  refine g_F2f rfl tkX11_wardAt ?_
  refine g_F2f rfl tkX11_northward ?_
  refine g_F2f rfl tkX11_homesLike ?_
  refine g_F2f rfl tkX11_mostTelling ?_
  refine g_F2f rfl tkX11_homesWith ?_
  refine g_F2f rfl tkX11_sought ?_
  refine g_F2f rfl tkX11_sightingsStand ?_
  refine g_F2f rfl tkX11_sightingsAgree ?_
  refine g_F2g rfl rfl tkX12_init ?_
  refine g_F2f rfl tkX12_lies ?_
  refine g_F2f rfl tkX12_has ?_
  refine g_F2f rfl tkX12_sizeOf ?_
  refine g_F2f rfl tkX12_held ?_
  refine g_F2f rfl tkX12_push ?_
  refine g_F2f rfl tkX12_feed ?_
  refine g_F2f rfl tkX12_byteAt ?_
  refine g_F2f rfl tkX12_here ?_
  refine g_F2f rfl tkX12_wrongs ?_
  refine g_F2f rfl tkX12_isGood ?_
  refine g_F2f rfl tkX12_seesDigit ?_
  refine g_F2f rfl tkX12_begins ?_
  refine g_F2f rfl tkX12_emit ?_
  refine g_F2f rfl tkX12_top ?_
  refine g_F2f rfl tkX12_puts ?_
  refine g_F2f rfl tkX12_opens ?_
  refine g_F2f rfl tkX12_reads ?_
  refine g_F2f rfl tkX12_isTimes ?_
  refine g_F2f rfl tkX12_isPlus ?_
  refine g_F2f rfl tkX12_isCompared ?_
  refine g_F2f rfl tkX12_isValue ?_
  refine g_F2f rfl tkX12_sums ?_
  refine g_F2f rfl tkX12_joins ?_
  refine g_F2f rfl tkX12_ends ?_
  refine g_F2f rfl tkX12_factor ?_
  refine g_F2f rfl tkX12_stays ?_
  refine g_F2f rfl tkX12_value ?_
  refine g_F2f rfl tkX12_pieceOfC ?_
  refine g_F2f rfl tkX12_goesBehind ?_
  refine g_F2f rfl tkX12_condition ?_
  refine g_F2f rfl tkX12_isClause ?_
  refine g_F2f rfl tkX12_clause ?_
  refine g_F2f rfl tkX12_takesText ?_
  refine g_F2f rfl tkX12_law ?_
  refine g_F2f rfl tkX12_rules ?_
  refine g_F2f rfl tkX12_valueOf ?_
  refine g_F2f rfl tkX12_worked ?_
  refine g_F2f rfl tkX12_does ?_
  refine g_F2f rfl tkX12_works ?_
  refine g_F2f rfl tkX12_isSo ?_
  refine g_F2f rfl tkX12_tells ?_
  refine g_F2f rfl tkX12_says ?_
  refine g_F2f rfl tkX12_nothingStands ?_
  refine g_F2f rfl tkX12_gustStands ?_
  refine g_F2f rfl tkX12_falling ?_
  refine g_F2f rfl tkX12_isKeptBy ?_
  refine g_F2f rfl tkX12_isAngry ?_
  refine g_F2f rfl tkX12_doQuarrel ?_
  refine g_F2f rfl tkX12_isTold ?_
  refine g_F2f rfl tkX12_isWard ?_
  refine g_F2f rfl tkX12_isThere ?_
  refine g_F2f rfl tkX12_areHabits ?_
  refine g_F2f rfl tkX12_isIn ?_
  refine g_F2f rfl tkX12_manyIn ?_
  refine g_F2f rfl tkX12_togetherIn ?_
  refine g_F2f rfl tkX12_gust ?_
  refine g_F2f rfl tkX12_name ?_
  refine g_F2f rfl tkX12_moves ?_
  refine g_F2f rfl tkX12_habit ?_
  refine g_F2f rfl tkX12_ward ?_
  refine g_F2f rfl tkX12_nurse ?_
  refine g_F2f rfl tkX12_needs ?_
  refine g_F2f rfl tkX12_repeats ?_
  refine g_F2f rfl tkX12_timesTold ?_
  refine g_F2f rfl tkX12_monthTold ?_
  refine g_F2f rfl tkX12_timetable ?_
  refine g_F2f rfl tkX12_lessonOf ?_
  refine g_F2f rfl tkX12_draw ?_
  refine g_F2f rfl tkX12_weakens ?_
  refine g_F2f rfl tkX12_isWell ?_
  refine g_F2f rfl tkX12_feeds ?_
  refine g_F2f rfl tkX12_teaches ?_
  refine g_F2f rfl tkX12_wardsGo ?_
  refine g_F2f rfl tkX12_breaks ?_
  refine g_F2f rfl tkX12_whistle ?_
  refine g_F2f rfl tkX12_nursesGo ?_
  refine g_F2f rfl tkX12_judges ?_
  refine g_F2f rfl tkX12_go ?_
  refine g_F2f rfl tkX12_months ?_
  refine g_F2f rfl tkX12_laysAside ?_
  refine g_F2f rfl tkX12_bringsBack ?_
  refine g_F2f rfl tkX12_tried ?_
  refine g_F2f rfl tkX12_orLess ?_
  refine g_F2f rfl tkX12_gustIs ?_
  refine g_F2f rfl tkX12_setIn ?_
  refine g_F2f rfl tkX12_brokenIn ?_
  refine g_F2f rfl tkX12_wardIs ?_
  refine g_F2f rfl tkX12_nurseIs ?_
  refine g_F2f rfl tkX12_quarrel ?_
  refine g_F2f rfl tkX12_toldGusts ?_
  refine g_F2f rfl tkX12_areGusts ?_
  refine g_F2f rfl tkX12_takesSome ?_
  refine g_F2f rfl tkX12_placeIn ?_
  refine g_F2f rfl tkX12_powerOf ?_
  refine g_F2f rfl tkX12_opensRow ?_
  refine g_F2f rfl tkX12_keepsRow ?_
  refine g_F2f rfl tkX12_takesPlaces ?_
  refine g_F2f rfl tkX12_isRoomFor ?_
  refine g_F2f rfl tkX12_twosIn ?_
  refine g_F2f rfl tkX12_housed ?_
  refine g_F2f rfl tkX12_wind ?_
  refine g_F2f rfl tkX12_canGo ?_
  refine g_F2f rfl tkX12_canLeave ?_
  refine g_F2f rfl tkX12_laysLeaving ?_
  refine g_F2f rfl tkX12_leaving ?_
  refine g_F2f rfl tkX12_letGo ?_
  refine g_F2f rfl tkX12_home ?_
  refine g_F2f rfl tkX12_homesFor ?_
  refine g_F2f rfl tkX12_greaterPart ?_
  refine g_F2f rfl tkX12_from ?_
  refine g_F2f rfl tkX12_laysLessons ?_
  refine g_F2f rfl tkX12_taught ?_
  refine g_F2f rfl tkX12_house ?_
  refine g_F2f rfl tkX12_isHigher ?_
  refine g_F2f rfl tkX12_isLiked ?_
  refine g_F2f rfl tkX12_asksNext ?_
  refine g_F2f rfl tkX12_isAnywhere ?_
  refine g_F2f rfl tkX12_laysPlaces ?_
  refine g_F2f rfl tkX12_placed ?_
  refine g_F2f rfl tkX12_fair ?_
  refine g_F2f rfl tkX12_lower ?_
  refine g_F2f rfl tkX12_higher ?_
  refine g_F2f rfl tkX12_hourOf ?_
  refine g_F2f rfl tkX12_laysAhead ?_
  refine g_F2f rfl tkX12_laysBehind ?_
  refine g_F2f rfl tkX12_escaped ?_
  refine g_F2f rfl tkX12_isOrder ?_
  refine g_F2f rfl tkX12_toldNurses ?_
  refine g_F2f rfl tkX12_nursed ?_
  refine g_F2f rfl tkX12_laysRing ?_
  refine g_F2f rfl tkX12_round ?_
  refine g_F2f rfl tkX12_partOf ?_
  refine g_F2f rfl tkX12_added ?_
  refine g_F2f rfl tkX12_seed ?_
  refine g_F2f rfl tkX12_keep ?_
  refine g_F2f rfl tkX12_undo ?_
  refine g_F2f rfl tkX12_check ?_
  refine g_F2f rfl tkX12_toldOf ?_
  refine g_F2f rfl tkX12_count ?_
  refine g_F2f rfl tkJ6_bitCount_0f7a4 ?_
  refine g_F2f rfl tkJ7_fill_53178 ?_
  exact g_F2n
theorem g_mt_ok : ∀ μ M, g_mt μ = some M → g_Mok g_mt M := by
  intro μ M h9
  obtain ⟨h0, h⟩ := g_mt_ml h9
  cases μ with
  | zero => exact absurd rfl h0
  | succ k =>
    obtain ⟨a, ha, hP⟩ := g_F2i g_MT_2 (g_F2t h)
    exact g_mok_of (x := k + 1) (g_F2u ha) h hP.1 hP.2
theorem g_law_ok : g_Tok g_mt (g_cn 13, x, code, 4, some .boolean, g_look2 ttL_law) := g_tok_of (ini := false) (fun h => by cases h) tkL_law
noncomputable def g_PO (o : Nat) (M : g_M) : Prop := M.1 = g_cn o
theorem g_F2o {o : Nat} {r : MethodName × ByteArray × Nat × Option FieldType × (Nat → Option g_En)} {l : List Nat} {m : List g_M} (t : g_F2 g_PO l m) : g_F2 g_PO (o :: l) ((g_cn o, r) :: m) := g_F2c rfl t
set_option maxRecDepth 100000 in
theorem g_OC_2 : g_F2 g_PO g_oc.tail g_ml.tail := by
  refine g_F2s ?_
  refine g_F2o ?_
  refine g_F2o ?_
  refine g_F2o ?_
  refine g_F2o ?_
  refine g_F2o ?_
  refine g_F2o ?_
  refine g_F2o ?_
  refine g_F2o ?_
  refine g_F2o ?_
  refine g_F2o ?_
  refine g_F2o ?_
  refine g_F2o ?_
  refine g_F2o ?_
  refine g_F2o ?_
  refine g_F2o ?_
  refine g_F2o ?_
  refine g_F2o ?_
  refine g_F2o ?_
  refine g_F2o ?_
  refine g_F2o ?_
  refine g_F2o ?_
  refine g_F2o ?_
  refine g_F2o ?_
  refine g_F2o ?_
  refine g_F2o ?_
  refine g_F2o ?_
  refine g_F2o ?_
  refine g_F2o ?_
  refine g_F2o ?_
  refine g_F2o ?_
  refine g_F2o ?_
  refine g_F2o ?_
  refine g_F2o ?_
  refine g_F2o ?_
  refine g_F2o ?_
  refine g_F2o ?_
  refine g_F2o ?_
  refine g_F2o ?_
  refine g_F2o ?_
  refine g_F2o ?_
  refine g_F2o ?_
  refine g_F2o ?_
  refine g_F2o ?_
  refine g_F2o ?_
  refine g_F2o ?_
  refine g_F2o ?_
  refine g_F2o ?_
  refine g_F2o ?_
  refine g_F2o ?_
  refine g_F2o ?_
  refine g_F2o ?_
  refine g_F2o ?_
  refine g_F2o ?_
  refine g_F2o ?_
  refine g_F2o ?_
  refine g_F2o ?_
  refine g_F2o ?_
  refine g_F2o ?_
  refine g_F2o ?_
  refine g_F2o ?_
  refine g_F2o ?_
  refine g_F2o ?_
  refine g_F2o ?_
  refine g_F2o ?_
  refine g_F2o ?_
  refine g_F2o ?_
  refine g_F2o ?_
  refine g_F2o ?_
  refine g_F2o ?_
  refine g_F2o ?_
  refine g_F2o ?_
  refine g_F2o ?_
  refine g_F2o ?_
  refine g_F2o ?_
  refine g_F2o ?_
  refine g_F2o ?_
  refine g_F2o ?_
  refine g_F2o ?_
  refine g_F2o ?_
  refine g_F2o ?_
  refine g_F2o ?_
  refine g_F2o ?_
  refine g_F2o ?_
  refine g_F2o ?_
  refine g_F2o ?_
  refine g_F2o ?_
  refine g_F2o ?_
  refine g_F2o ?_
  refine g_F2o ?_
  refine g_F2o ?_
  refine g_F2o ?_
  refine g_F2o ?_
  refine g_F2o ?_
  refine g_F2o ?_
  refine g_F2o ?_
  refine g_F2o ?_
  refine g_F2o ?_
  refine g_F2o ?_
  refine g_F2o ?_
  refine g_F2o ?_
  refine g_F2o ?_
  refine g_F2o ?_
  refine g_F2o ?_
  refine g_F2o ?_
  refine g_F2o ?_
  refine g_F2o ?_
  refine g_F2o ?_
  refine g_F2o ?_
  refine g_F2o ?_
  refine g_F2o ?_
  refine g_F2o ?_
  refine g_F2o ?_
  refine g_F2o ?_
  refine g_F2o ?_
  refine g_F2o ?_
  refine g_F2o ?_
  refine g_F2o ?_
  refine g_F2o ?_
  refine g_F2o ?_
  refine g_F2o ?_
  refine g_F2o ?_
  refine g_F2o ?_
  refine g_F2o ?_
  refine g_F2o ?_
  refine g_F2o ?_
  refine g_F2o ?_
  refine g_F2o ?_
  refine g_F2o ?_
  refine g_F2o ?_
  refine g_F2o ?_
  refine g_F2o ?_
  refine g_F2o ?_
  refine g_F2o ?_
  refine g_F2o ?_
  refine g_F2o ?_
  refine g_F2o ?_
  refine g_F2o ?_
  refine g_F2o ?_
  refine g_F2o ?_
  refine g_F2o ?_
  refine g_F2o ?_
  refine g_F2o ?_
  refine g_F2o ?_
  refine g_F2o ?_
  refine g_F2o ?_
  refine g_F2o ?_
  refine g_F2o ?_
  refine g_F2o ?_
  refine g_F2o ?_
  refine g_F2o ?_
  refine g_F2o ?_
  refine g_F2o ?_
  refine g_F2o ?_
  refine g_F2o ?_
  refine g_F2o ?_
  refine g_F2o ?_
  refine g_F2o ?_
  refine g_F2o ?_
  refine g_F2o ?_
  refine g_F2o ?_
  refine g_F2o ?_
  refine g_F2o ?_
  refine g_F2o ?_
  refine g_F2o ?_
  refine g_F2o ?_
  refine g_F2o ?_
  refine g_F2o ?_
  refine g_F2o ?_
  refine g_F2o ?_
  refine g_F2o ?_
  refine g_F2o ?_
  refine g_F2o ?_
  refine g_F2o ?_
  refine g_F2o ?_
  refine g_F2o ?_
  refine g_F2o ?_
  refine g_F2o ?_
  refine g_F2o ?_
  refine g_F2o ?_
  refine g_F2o ?_
  refine g_F2o ?_
  refine g_F2o ?_
  refine g_F2o ?_
  refine g_F2o ?_
  refine g_F2o ?_
  refine g_F2o ?_
  refine g_F2o ?_
  refine g_F2o ?_
  refine g_F2o ?_
  refine g_F2o ?_
  refine g_F2o ?_
  refine g_F2o ?_
  refine g_F2o ?_
  refine g_F2o ?_
  refine g_F2o ?_
  refine g_F2o ?_
  refine g_F2o ?_
  refine g_F2o ?_
  refine g_F2o ?_
  refine g_F2o ?_
  refine g_F2o ?_
  refine g_F2o ?_
  refine g_F2o ?_
  refine g_F2o ?_
  refine g_F2o ?_
  refine g_F2o ?_
  refine g_F2o ?_
  refine g_F2o ?_
  refine g_F2o ?_
  refine g_F2o ?_
  refine g_F2o ?_
  refine g_F2o ?_
  refine g_F2o ?_
  refine g_F2o ?_
  refine g_F2o ?_
  refine g_F2o ?_
  refine g_F2o ?_
  refine g_F2o ?_
  refine g_F2o ?_
  refine g_F2o ?_
  refine g_F2o ?_
  refine g_F2o ?_
  refine g_F2o ?_
  refine g_F2o ?_
  refine g_F2o ?_
  refine g_F2o ?_
  refine g_F2o ?_
  refine g_F2o ?_
  refine g_F2o ?_
  refine g_F2o ?_
  refine g_F2o ?_
  refine g_F2o ?_
  refine g_F2o ?_
  refine g_F2o ?_
  refine g_F2o ?_
  refine g_F2o ?_
  refine g_F2o ?_
  refine g_F2o ?_
  refine g_F2o ?_
  refine g_F2o ?_
  refine g_F2o ?_
  refine g_F2o ?_
  refine g_F2o ?_
  refine g_F2o ?_
  refine g_F2o ?_
  refine g_F2o ?_
  refine g_F2o ?_
  refine g_F2o ?_
  refine g_F2o ?_
  refine g_F2o ?_
  refine g_F2o ?_
  refine g_F2o ?_
  refine g_F2o ?_
  refine g_F2o ?_
  refine g_F2o ?_
  refine g_F2o ?_
  refine g_F2o ?_
  refine g_F2o ?_
  refine g_F2o ?_
  refine g_F2o ?_
  refine g_F2o ?_
  refine g_F2o ?_
  refine g_F2o ?_
  refine g_F2o ?_
  refine g_F2o ?_
  refine g_F2o ?_
  refine g_F2o ?_
  refine g_F2o ?_
  refine g_F2o ?_
  refine g_F2o ?_
  refine g_F2o ?_
  refine g_F2o ?_
  refine g_F2o ?_
  refine g_F2o ?_
  refine g_F2o ?_
  refine g_F2o ?_
  refine g_F2o ?_
  refine g_F2o ?_
  refine g_F2o ?_
  refine g_F2o ?_
  refine g_F2o ?_
  refine g_F2o ?_
  refine g_F2o ?_
  refine g_F2o ?_
  refine g_F2o ?_
  refine g_F2o ?_
  refine g_F2o ?_
  refine g_F2o ?_
  refine g_F2o ?_
  refine g_F2o ?_
  refine g_F2o ?_
  refine g_F2o ?_
  refine g_F2o ?_
  refine g_F2o ?_
  refine g_F2o ?_
  refine g_F2o ?_
  refine g_F2o ?_
  refine g_F2o ?_
  refine g_F2o ?_
  refine g_F2o ?_
  exact g_F2n
theorem g_oc_ok : ∀ (μ o : Nat) (M : g_M), g_mt μ = some M → g_oc[μ]? = some o → M.1 = g_cn o := by
  intro μ o M h9 h2
  obtain ⟨h0, h⟩ := g_mt_ml h9
  cases μ with
  | zero => exact absurd rfl h0
  | succ k =>
    obtain ⟨a, ha, hP⟩ := g_F2i g_OC_2 (g_F2t h)
    rw [g_F2t h2] at ha; cases ha; exact hP
end Prt17
section Prt18
/-! an abstract machine by bounds, and contracts: numbers -/
noncomputable abbrev q_N : Type := Int ⊕ Nat
noncomputable abbrev q_V : Type := q_N ⊕ q_N ⊕ Option Nat
noncomputable abbrev q_E : Type := Int × Int × Nat × q_N × q_N
noncomputable abbrev q_S : Type := List q_E
noncomputable abbrev q_L : Type := List (Nat × q_V)
noncomputable def q_nth {α : Type} (l : List α) (i : Nat) : Option α := List.rec (motive := fun _ => Nat → Option α) (fun _ => none) (fun h _ ih i => Nat.casesOn i (some h) (fun j => ih j)) l i
noncomputable def q_put {α : Type} (l : List α) (i : Nat) (v : α) : List α := List.rec (motive := fun _ => Nat → List α) (fun _ => []) (fun h t ih i => Nat.casesOn i (v :: t) (fun j => h :: ih j)) l i
noncomputable def q_len {α : Type} (l : List α) : Nat := List.rec (motive := fun _ => Nat) 0 (fun _ _ ih => Nat.succ ih) l
noncomputable def q_app {α : Type} (l : List α) (v : α) : List α := List.rec (motive := fun _ => List α) [v] (fun h _ ih => h :: ih) l
noncomputable def q_ilt (a b : Int) : Bool := match a, b with
  | .ofNat m, .ofNat n => Nat.blt m n
  | .negSucc _, .ofNat _ => true
  | .ofNat _, .negSucc _ => false
  | .negSucc m, .negSucc n => Nat.blt n m
noncomputable def q_ile (a b : Int) : Bool := match a, b with
  | .ofNat m, .ofNat n => Nat.ble m n
  | .negSucc _, .ofNat _ => true
  | .ofNat _, .negSucc _ => false
  | .negSucc m, .negSucc n => Nat.ble n m
noncomputable def q_ieq (a b : Int) : Bool := match a, b with
  | .ofNat m, .ofNat n => Nat.beq m n
  | .negSucc m, .negSucc n => Nat.beq m n
  | _, _ => false
/-- how many bits -/
noncomputable def v_popN : Nat → Nat → Nat
  | 0, _ => 0
  | f + 1, n => n % 2 + v_popN f (n / 2)
noncomputable def v_pop (x : Int32) : Int32 := Int32.ofInt ((v_popN 32 x.toUInt32.toNat : Nat) : Int)
noncomputable def q_F (op : Nat) (x y : Int32) : Int32 := match op with
  | 1 => x + y
  | 2 => x - y
  | 3 => x * y
  | 4 => x &&& y
  | 5 => x ||| y
  | 6 => x ^^^ y
  | 7 => x <<< (y &&& 31)
  | 8 => x >>> (y &&& 31)
  | 9 => (x.toUInt32 >>> (y.toUInt32 &&& Int32.toUInt32 31)).toInt32
  | 10 => x / y
  | 11 => x - x / y * y
  | 12 => if x < y then y else x
  | 13 => if y < x then y else x
  | 20 => v_pop x
  | _ => x
noncomputable def q_iv (env : q_S) (a : q_N) : Int × Int := match a with
  | .inl c => (c, c)
  | .inr k => match q_nth env k with
    | some e => (e.1, e.2.1)
    | none => (0, 0)
noncomputable def q_c (env : q_S) (a : q_N) : Option Int := match a with
  | .inl c => some c
  | .inr k => match q_nth env k with
    | some e => bif (q_ieq e.1 e.2.1) then some e.1 else none
    | none => none
noncomputable def v_mx (a b : Int) : Int := bif q_ile a b then b else a
noncomputable def v_mn (a b : Int) : Int := bif q_ile a b then a else b
noncomputable def v_cap (a b : Int) : Int := ((2 ^ (Nat.log2 (v_mx a b).toNat + 1) - 1 : Nat) : Int)
noncomputable def v_ivop (op : Nat) (p q : Int × Int) : Int × Int := match op with
  | 1 => bif (q_ile (-2147483648) (p.1 + q.1)) && (q_ile (p.2 + q.2) 2147483647) then (p.1 + q.1, p.2 + q.2) else (-2147483648, 2147483647)
  | 2 => bif (q_ile (-2147483648) (p.1 - q.2)) && (q_ile (p.2 - q.1) 2147483647) then (p.1 - q.2, p.2 - q.1) else (-2147483648, 2147483647)
  | 3 => bif (q_ile 0 p.1) && ((q_ile 0 q.1) && (q_ile (p.2 * q.2) 2147483647)) then (p.1 * q.1, p.2 * q.2) else (-2147483648, 2147483647)
  | 4 => bif (q_ile 0 q.1) then (0, bif q_ile 0 p.1 then v_mn p.2 q.2 else q.2) else bif (q_ile 0 p.1) then (0, p.2) else (-2147483648, 2147483647)
  | 5 => bif (q_ile 0 p.1) && (q_ile 0 q.1) then (v_mx p.1 q.1, v_cap p.2 q.2) else (-2147483648, 2147483647)
  | 6 => bif (q_ile 0 p.1) && (q_ile 0 q.1) then (0, v_cap p.2 q.2) else (-2147483648, 2147483647)
  | 7 => bif ((q_ieq p.1 1) && (q_ieq p.2 1)) && ((q_ile 0 q.1) && (q_ile q.2 30)) then (((2 ^ q.1.toNat : Nat) : Int), ((2 ^ q.2.toNat : Nat) : Int)) else (-2147483648, 2147483647)
  | 8 => bif (q_ile 0 p.1) then (0, p.2) else (-2147483648, 2147483647)
  | 10 => bif (q_ile 0 p.1) && (q_ile 1 q.1) then (0, p.2) else (-2147483648, 2147483647)
  | 11 => bif (q_ile 0 p.1) && (q_ile 1 q.1) then (0, v_mn p.2 (q.2 - 1)) else (-2147483648, 2147483647)
  | 12 => (v_mx p.1 q.1, v_mx p.2 q.2)
  | 13 => (v_mn p.1 q.1, v_mn p.2 q.2)
  | 20 => bif (q_ile 0 p.1) then (bif q_ile 1 p.1 then 1 else 0, bif q_ieq p.2 0 then 0 else ((Nat.log2 p.2.toNat + 1 : Nat) : Int)) else (0, 32)
  | _ => (-2147483648, 2147483647)
noncomputable def q_nb (a b : q_N) : Bool := match a, b with
  | .inl x, .inl y => (q_ieq x y)
  | .inr x, .inr y => Nat.beq x y
  | _, _ => false
/-- a symbol that was made by the same operation -/
noncomputable def q_cse (env : q_S) (op : Nat) (a b : q_N) : Option Nat := List.rec (motive := fun _ => Nat → Option Nat) (fun _ => none) (fun h _ ih k => bif Nat.beq h.2.2.1 op && (q_nb h.2.2.2.1 a && q_nb h.2.2.2.2 b) then some k else ih (Nat.succ k)) env 0
noncomputable def q_new (env : q_S) (e : q_E) (k : q_N → q_S → Bool) : Bool := k (.inr (q_len env)) (q_app env e)
noncomputable def q_nrm (z : Int) : Int := bif (q_ile (-2147483648) z) && (q_ile z 2147483647) then z else (Int32.ofInt z).toInt
noncomputable def q_fold (op : Nat) (x y : Int) : Int := bif Nat.beq op 1 then q_nrm (x + y) else bif Nat.beq op 2 then q_nrm (x - y) else (q_F op (Int32.ofInt x) (Int32.ofInt y)).toInt
/-- bounds that are told of a symbol, and, where it is another one and a constant, of that one -/
noncomputable def v_bd1 (env : q_S) (k : Nat) (lo hi : Int) : q_S := match q_nth env k with
  | some e => q_put env k (v_mx e.1 lo, v_mn e.2.1 hi, e.2.2)
  | none => env
noncomputable def v_bk (env : q_S) (lo hi : Int) (e : q_E) : q_S := match e.2.2.1, e.2.2.2.1, e.2.2.2.2 with
  | 1, .inr t, .inl c => bif q_ile (-2147483648) ((q_iv env (.inr t)).1 + c) && q_ile ((q_iv env (.inr t)).2 + c) 2147483647 then v_bd1 env t (lo - c) (hi - c) else env
  | 4, .inr s, .inr t => bif (q_ieq lo 0 && q_ieq hi 0) && q_ile 0 (q_iv env (.inr s)).1 then (match q_nth env t with
    | some f => (match f.2.2.1, f.2.2.2.2 with
      | 6, .inl c => bif q_ieq c (-1) && q_ile 0 (q_iv env f.2.2.2.1).1 then v_bd1 env s 0 (q_iv env f.2.2.2.1).2 else env
      | _, _ => env)
    | none => env) else env
  | _, _, _ => env
noncomputable def v_bd (env : q_S) (k : Nat) (lo hi : Int) : q_S := match q_nth env k with
  | some e => v_bk (v_bd1 env k lo hi) lo hi e
  | none => env
noncomputable def v_bin3 (op : Nat) (a b : q_N) (env : q_S) (k : q_N → q_S → Bool) : Bool := match q_cse env op a b with
  | some s => k (.inr s) env
  | none => q_new env ((v_ivop op (q_iv env a) (q_iv env b)).1, (v_ivop op (q_iv env a) (q_iv env b)).2, op, a, b) k
noncomputable def v_bin (op : Nat) (a b : q_N) (env : q_S) (k : q_N → q_S → Bool) : Bool := match q_c env a with
  | some x => (match q_c env b with
    | some y => k (.inl (q_fold op x y)) env
    | none => bif Nat.beq op 4 && (q_ieq x 0) then k (.inl 0) env else bif Nat.beq op 4 && (q_ieq x (-1)) then k b env else v_bin3 op a b env k)
  | none => (match q_c env b with
    | some y => bif Nat.beq op 4 && (q_ieq y 0) then k (.inl 0) env else bif Nat.beq op 4 && (q_ieq y (-1)) then k a env else v_bin3 op a b env k
    | none => v_bin3 op a b env k)
/-- a number that must be known: each of its values is a road -/
noncomputable def v_en (s : Nat) (hi : Int) (env : q_S) (k : Int → q_S → Bool) (fuel : Nat) : Int → Bool := Nat.rec (motive := fun _ => Int → Bool) (fun _ => false) (fun _ ih lo => k lo (v_bd env s lo lo) && (bif (q_ile hi lo) then true else ih (lo + 1))) fuel
noncomputable def v_need (a : q_N) (env : q_S) (k : Int → q_S → Bool) : Bool := match a with
  | .inl c => k c env
  | .inr s => v_en s (q_iv env a).2 env k 64 (q_iv env a).1
/-- both are symbols, z is their difference -/
noncomputable def v_ltz (s t : Nat) (z : q_N) (env : q_S) (kt kf : q_S → Bool) : Bool :=
  bif q_ile (q_iv env z).2 (-1) then kt env else bif q_ile 0 (q_iv env z).1 then kf env else match z with
  | .inr k => kt (v_bd (v_bd (v_bd env k (q_iv env z).1 (-1)) s (q_iv env (.inr s)).1 ((q_iv env (.inr t)).2 - 1)) t ((q_iv env (.inr s)).1 + 1) (q_iv env (.inr t)).2) && kf (v_bd (v_bd (v_bd env k 0 (q_iv env z).2) s (q_iv env (.inr t)).1 (q_iv env (.inr s)).2) t (q_iv env (.inr t)).1 (q_iv env (.inr s)).2)
  | .inl _ => kt env && kf env
noncomputable def v_lt (a b : q_N) (env : q_S) (kt kf : q_S → Bool) : Bool :=
  bif (q_ilt ((q_iv env a).2) ((q_iv env b).1)) then kt env else bif (q_ile ((q_iv env b).2) ((q_iv env a).1)) then kf env else
  match a, b with
  | .inr s, .inl c => kt (v_bd env s (q_iv env a).1 (c - 1)) && kf (v_bd env s c (q_iv env a).2)
  | .inl c, .inr s => kt (v_bd env s (c + 1) (q_iv env b).2) && kf (v_bd env s (q_iv env b).1 c)
  | .inr s, .inr t => bif (q_ile (-2147483648) ((q_iv env a).1 - (q_iv env b).2) && q_ile ((q_iv env a).2 - (q_iv env b).1) 2147483647) && ((q_ile (-2147483648) (q_iv env a).1 && q_ile (q_iv env a).2 2147483647) && (q_ile (-2147483648) (q_iv env b).1 && q_ile (q_iv env b).2 2147483647)) then v_bin3 2 a b env (fun z e => v_ltz s t z e kt kf) else kt (v_bd (v_bd env s (q_iv env a).1 ((q_iv env b).2 - 1)) t ((q_iv env a).1 + 1) (q_iv env b).2) && kf (v_bd (v_bd env s (q_iv env b).1 (q_iv env a).2) t (q_iv env b).1 (q_iv env a).2)
  | _, _ => kt env && kf env
noncomputable def v_eq3 (s : Nat) (lo hi c : Int) (env : q_S) (kt kf : q_S → Bool) : Bool :=
  kt (v_bd env s c c) && ((bif (q_ilt lo c) then kf (v_bd env s lo (c - 1)) else true) && (bif (q_ilt c hi) then kf (v_bd env s (c + 1) hi) else true))
noncomputable def v_eq (a b : q_N) (env : q_S) (kt kf : q_S → Bool) : Bool :=
  bif q_nb a b then kt env else
  bif (q_ilt ((q_iv env a).2) ((q_iv env b).1)) then kf env else bif (q_ilt ((q_iv env b).2) ((q_iv env a).1)) then kf env else
  match q_c env a, q_c env b with
  | some x, some y => bif (q_ieq x y) then kt env else kf env
  | none, some y => (match a with
    | .inr s => v_eq3 s (q_iv env a).1 (q_iv env a).2 y env kt kf
    | .inl _ => false)
  | some x, none => (match b with
    | .inr s => v_eq3 s (q_iv env b).1 (q_iv env b).2 x env kt kf
    | .inl _ => false)
  | none, none => (match a, b with
    | .inr s, .inr t => kt (v_bd (v_bd env s (q_iv env b).1 (q_iv env b).2) t (q_iv env a).1 (q_iv env a).2) && kf env
    | _, _ => false)
noncomputable def q_gl (ls : q_L) (i : Nat) : Option q_V := List.rec (motive := fun _ => Option q_V) none (fun h _ ih => bif Nat.beq h.1 i then some h.2 else ih) ls
noncomputable def q_ct (v : q_V) : Nat := match v with
  | .inr (.inl _) => 2
  | _ => 1
noncomputable def q_fits (ty : FieldType) (v : q_V) (env : q_S) (iv : q_S → q_N → Int × Int) : Bool := match ty, v with
  | .int, .inl _ => true
  | .boolean, .inl a => (q_ile 0 ((iv env a).1)) && (q_ile ((iv env a).2) 1)
  | .object _, .inr (.inr _) => true
  | .array _, .inr (.inr _) => true
  | _, _ => false
noncomputable def q_lsl (l : List q_V) : Nat := List.rec (motive := fun _ => Nat) 0 (fun h _ ih => q_ct h + ih) l
noncomputable def q_args (i : Nat) (l : List q_V) : q_L := List.rec (motive := fun _ => Nat → q_L) (fun _ => []) (fun h _ ih i => (i, h) :: ih (i + q_ct h)) l i
/-- the first n of a stack, the last of them first; and the rest -/
noncomputable def q_tk (n : Nat) (l : List q_V) (k : List q_V → List q_V → Bool) : Bool := Nat.rec (motive := fun _ => List q_V → List q_V → Bool) (fun acc r => k acc r) (fun _ ih acc r => match r with
  | [] => false
  | h :: t => ih (h :: acc) t) n [] l
/-! what the words mean -/
noncomputable def q_r (ρ : List Int) (a : q_N) (x : Int) : Prop := match a with
  | .inl c => x = c
  | .inr k => ρ[k]? = some x
noncomputable def q_rv (ρ : List Int) (v : q_V) (w : Value) : Prop := match v with
  | .inl a => ∃ x : Int32, w = .int x ∧ q_r ρ a x.toInt
  | .inr (.inl a) => ∃ x : Int64, w = .long x ∧ q_r ρ a x.toInt
  | .inr (.inr o) => w = va_rf o
noncomputable def q_al2 {α β : Type} (R : α → β → Prop) : List α → List β → Prop
  | [], [] => True
  | a :: s, b :: t => R a b ∧ q_al2 R s t
  | _, _ => False
noncomputable def q_re (ρ : List Int) (env : q_S) : Prop := ρ.length = env.length ∧ ∀ (k : Nat) (e : q_E), env[k]? = some e → ∃ x, ρ[k]? = some x ∧ e.1 ≤ x ∧ x ≤ e.2.1 ∧ (e.2.2.1 = 0 ∨ ∃ u v : Int32, q_r ρ e.2.2.2.1 u.toInt ∧ q_r ρ e.2.2.2.2 v.toInt ∧ x = (q_F e.2.2.1 u v).toInt)
noncomputable def q_px (ρ ρ' : List Int) : Prop := ∃ t, ρ' = ρ ++ t
theorem q_px_rf (ρ : List Int) : q_px ρ ρ := ⟨[], by simp⟩
theorem q_px_tr {a b c : List Int} (h1 : q_px a b) (h2 : q_px b c) : q_px a c := by
  obtain ⟨t, rfl⟩ := h1
  obtain ⟨u, rfl⟩ := h2
  exact ⟨t ++ u, by simp⟩
theorem q_r_px {ρ ρ' : List Int} (h : q_px ρ ρ') {a : q_N} {x : Int} (hr : q_r ρ a x) : q_r ρ' a x := by
  obtain ⟨t, rfl⟩ := h
  cases a with
  | inl c => exact hr
  | inr k =>
    have hr : ρ[k]? = some x := hr
    show (ρ ++ t)[k]? = some x
    rw [List.getElem?_append_left (List.getElem?_eq_some_iff.mp hr).1]
    exact hr
theorem q_rv_px {ρ ρ' : List Int} (h : q_px ρ ρ') {a : q_V} {x : Value} (hr : q_rv ρ a x) : q_rv ρ' a x := by
  match a, hr with
  | .inl a, ⟨x, h1, h2⟩ => exact ⟨x, h1, q_r_px h h2⟩
  | .inr (.inl a), ⟨x, h1, h2⟩ => exact ⟨x, h1, q_r_px h h2⟩
  | .inr (.inr o), hr => exact hr
theorem q_al2_imp {α β : Type} {R S : α → β → Prop} (h : ∀ a b, R a b → S a b) : ∀ {s : List α} {t : List β}, q_al2 R s t → q_al2 S s t
  | [], [], _ => trivial
  | _ :: _, _ :: _, ⟨h1, h2⟩ => ⟨h _ _ h1, q_al2_imp h h2⟩
  | [], _ :: _, h => h.elim
  | _ :: _, [], h => h.elim
theorem q_st_px {ρ ρ' : List Int} (h : q_px ρ ρ') {s : List q_V} {t : List Value} (hr : q_al2 (q_rv ρ) s t) : q_al2 (q_rv ρ') s t := q_al2_imp (fun _ _ => q_rv_px h) hr
theorem q_r_inj {ρ : List Int} {a : q_N} {x y : Int} (h1 : q_r ρ a x) (h2 : q_r ρ a y) : x = y := by
  cases a with
  | inl c => exact h1.trans h2.symm
  | inr k =>
    have h1 : ρ[k]? = some x := h1
    have h2 : ρ[k]? = some y := h2
    exact Option.some.inj (h1.symm.trans h2)
theorem q_nth_eq {α : Type} : ∀ (l : List α) (i : Nat), q_nth l i = l[i]?
  | [], _ => rfl
  | _ :: _, 0 => rfl
  | _ :: t, i + 1 => by
    show q_nth t i = _
    rw [q_nth_eq t i]
    simp
theorem q_put_eq {α : Type} : ∀ (l : List α) (i : Nat) (v : α), q_put l i v = l.set i v
  | [], _, _ => rfl
  | _ :: _, 0, _ => rfl
  | h :: t, i + 1, v => by
    show h :: q_put t i v = _
    rw [q_put_eq t i v]
    simp
theorem q_len_eq {α : Type} : ∀ (l : List α), q_len l = l.length
  | [] => rfl
  | _ :: t => by
    show Nat.succ (q_len t) = _
    rw [q_len_eq t]
    simp
theorem q_app_eq {α : Type} : ∀ (l : List α) (v : α), q_app l v = l ++ [v]
  | [], _ => rfl
  | h :: t, v => by
    show h :: q_app t v = _
    rw [q_app_eq t v]
    simp
theorem q_ilt_ok (a b : Int) : q_ilt a b = true ↔ a < b := by
  unfold q_ilt
  split
  · rename_i m n
    rw [Nat.blt_eq]
    show m < n ↔ ((m : Int) < (n : Int))
    omega
  · rename_i m n
    have h : Int.negSucc m < (n : Int) := by omega
    exact ⟨fun _ => h, fun _ => rfl⟩
  · rename_i m n
    have h : ¬ (m : Int) < Int.negSucc n := by omega
    exact ⟨fun h => (by cases h), fun h2 => absurd h2 h⟩
  · rw [Nat.blt_eq]; omega
theorem q_ile_ok (a b : Int) : q_ile a b = true ↔ a ≤ b := by
  unfold q_ile
  split
  · rename_i m n
    rw [Nat.ble_eq]
    show m ≤ n ↔ ((m : Int) ≤ (n : Int))
    omega
  · rename_i m n
    have h : Int.negSucc m ≤ (n : Int) := by omega
    exact ⟨fun _ => h, fun _ => rfl⟩
  · rename_i m n
    have h : ¬ (m : Int) ≤ Int.negSucc n := by omega
    exact ⟨fun h => (by cases h), fun h2 => absurd h2 h⟩
  · rw [Nat.ble_eq]; omega
theorem q_ieq_ok (a b : Int) : q_ieq a b = true ↔ a = b := by
  unfold q_ieq
  split
  · rename_i m n
    rw [Nat.beq_eq]
    show m = n ↔ ((m : Int) = (n : Int))
    omega
  · rw [Nat.beq_eq]; omega
  · rename_i h1 h2
    refine ⟨fun h => (by cases h), fun h => ?_⟩
    subst h
    cases a with
    | ofNat m => exact (h1 m m rfl rfl).elim
    | negSucc m => exact (h2 m m rfl rfl).elim
theorem q_ile_f {a b : Int} (h : q_ile a b = false) : b < a := by
  have : ¬ a ≤ b := fun h2 => by rw [(q_ile_ok a b).mpr h2] at h; cases h
  omega
theorem q_ieq_f {a b : Int} (h : q_ieq a b = false) : ¬ a = b := fun h2 => by rw [(q_ieq_ok a b).mpr h2] at h; cases h
theorem q_rng (x : Int32) : -2147483648 ≤ x.toInt ∧ x.toInt ≤ 2147483647 := by
  have h1 := BitVec.le_toInt x.toBitVec
  have h2 := BitVec.toInt_lt (x := x.toBitVec)
  have e : x.toInt = x.toBitVec.toInt := rfl
  rw [e]
  constructor <;> omega
theorem q_of (x : Int32) : Int32.ofInt x.toInt = x := by simp
theorem q_ofr {z : Int} (h1 : -2147483648 ≤ z) (h2 : z ≤ 2147483647) : (Int32.ofInt z).toInt = z := by
  rw [Int32.toInt_ofInt]
  have e : (Int32.size : Int) = 4294967296 := rfl
  exact Int.bmod_eq_of_le (by omega) (by omega)
theorem q_inj {x y : Int32} (h : x.toInt = y.toInt) : x = y := Int32.toInt_inj.mp h
theorem q_nrm_ok (z : Int) : q_nrm z = (Int32.ofInt z).toInt := by
  unfold q_nrm
  cases h : (q_ile (-2147483648) z && q_ile z 2147483647) with
  | false => rfl
  | true =>
    rw [Bool.and_eq_true, q_ile_ok, q_ile_ok] at h
    exact (q_ofr h.1 h.2).symm
theorem q_fold_ok (op : Nat) (x y : Int32) : q_fold op x.toInt y.toInt = (q_F op x y).toInt := by
  unfold q_fold
  cases h1 : Nat.beq op 1 with
  | true =>
    have := Nat.eq_of_beq_eq_true h1
    subst this
    show q_nrm (x.toInt + y.toInt) = (x + y).toInt
    rw [q_nrm_ok, Int32.ofInt_add, q_of, q_of]
  | false =>
    cases h2 : Nat.beq op 2 with
    | true =>
      have := Nat.eq_of_beq_eq_true h2
      subst this
      show q_nrm (x.toInt - y.toInt) = (x - y).toInt
      rw [q_nrm_ok, Int32.ofInt_sub, q_of, q_of]
    | false =>
      show (q_F op (Int32.ofInt x.toInt) (Int32.ofInt y.toInt)).toInt = _
      rw [q_of, q_of]
theorem q_iv_ok {ρ : List Int} {env : q_S} (he : q_re ρ env) {a : q_N} {x : Int} (h : q_r ρ a x) : (q_iv env a).1 ≤ x ∧ x ≤ (q_iv env a).2 := by
  cases a with
  | inl c => have h : x = c := h; subst h; exact ⟨Int.le_refl _, Int.le_refl _⟩
  | inr k =>
    have h : ρ[k]? = some x := h
    have hl := (List.getElem?_eq_some_iff.mp h).1
    rw [he.1] at hl
    have h2 : env[k]? = some env[k] := List.getElem?_eq_getElem hl
    obtain ⟨y, h3, h4, h5, -⟩ := he.2 k _ h2
    have : x = y := Option.some.inj (h.symm.trans h3)
    subst this
    unfold q_iv
    simp only [q_nth_eq, h2]
    exact ⟨h4, h5⟩
theorem q_c_ok {ρ : List Int} {env : q_S} (he : q_re ρ env) {a : q_N} {x c : Int} (h : q_r ρ a x) (hc : q_c env a = some c) : x = c := by
  cases a with
  | inl d => cases hc; exact h
  | inr k =>
    have hi := q_iv_ok he h
    unfold q_c at hc
    unfold q_iv at hi
    dsimp only at hc hi
    cases hn : q_nth env k with
    | none => rw [hn] at hc; cases hc
    | some e =>
      rw [hn] at hc hi
      dsimp only at hc hi
      cases hq : q_ieq e.1 e.2.1 with
      | false => rw [hq] at hc; cases hc
      | true =>
        rw [hq] at hc
        cases hc
        have := (q_ieq_ok _ _).mp hq
        omega
theorem q_new_ok {ρ : List Int} {env : q_S} (he : q_re ρ env) {e : q_E} {z : Int} (h1 : e.1 ≤ z) (h2 : z ≤ e.2.1) (h3 : e.2.2.1 = 0 ∨ ∃ u v : Int32, q_r ρ e.2.2.2.1 u.toInt ∧ q_r ρ e.2.2.2.2 v.toInt ∧ z = (q_F e.2.2.1 u v).toInt) : q_px ρ (ρ ++ [z]) ∧ q_re (ρ ++ [z]) (q_app env e) ∧ q_r (ρ ++ [z]) (.inr (q_len env)) z := by
  have hp : q_px ρ (ρ ++ [z]) := ⟨[z], rfl⟩
  refine ⟨hp, ⟨by rw [q_app_eq]; simp [he.1], fun k e' hk => ?_⟩, ?_⟩
  · rw [q_app_eq] at hk
    by_cases hl : k < env.length
    · rw [List.getElem?_append_left hl] at hk
      obtain ⟨x, a1, a2, a3, a4⟩ := he.2 k e' hk
      refine ⟨x, q_r_px (a := .inr k) hp a1, a2, a3, a4.imp id (fun ⟨u, v, b1, b2, b3⟩ => ⟨u, v, q_r_px hp b1, q_r_px hp b2, b3⟩)⟩
    · rw [List.getElem?_append_right (by omega)] at hk
      have hz : k - env.length < 1 := (List.getElem?_eq_some_iff.mp hk).1
      have e0 : k - env.length = 0 := by omega
      rw [e0] at hk
      cases hk
      have ek : k = ρ.length := by rw [he.1]; omega
      refine ⟨z, by rw [ek]; simp, h1, h2, h3.imp id (fun ⟨u, v, b1, b2, b3⟩ => ⟨u, v, q_r_px hp b1, q_r_px hp b2, b3⟩)⟩
  · show (ρ ++ [z])[q_len env]? = some z
    rw [q_len_eq, ← he.1]
    simp
theorem q_and_iv {x y : Int32} (h : 0 ≤ y.toInt) : 0 ≤ (x &&& y).toInt ∧ (x &&& y).toInt ≤ y.toInt := by
  have e1 : (x &&& y).toInt = (x.toBitVec &&& y.toBitVec).toInt := rfl
  have e2 : y.toInt = y.toBitVec.toInt := rfl
  rw [e1, e2]
  rw [e2] at h
  have hy : y.toBitVec.toNat < 2 ^ 31 := by
    rw [BitVec.toInt_eq_toNat_cond] at h
    have := y.toBitVec.isLt
    split at h
    · omega
    · omega
  have ha : (x.toBitVec &&& y.toBitVec).toNat ≤ y.toBitVec.toNat := by
    rw [BitVec.toNat_and]
    exact Nat.and_le_right
  rw [BitVec.toInt_eq_toNat_cond, BitVec.toInt_eq_toNat_cond, if_pos (by omega), if_pos (by omega)]
  constructor
  · omega
  · exact Int.ofNat_le.mpr ha
theorem q_and_comm (x y : Int32) : x &&& y = y &&& x := Int32.and_comm x y
theorem q_nb_ok {a b : q_N} (h : q_nb a b = true) : a = b := by
  unfold q_nb at h
  split at h
  · rw [q_ieq_ok] at h; rw [h]
  · rw [Nat.eq_of_beq_eq_true h]
  · cases h
theorem q_cse_ok (op : Nat) (a b : q_N) : ∀ (env : q_S) (k0 s : Nat), List.rec (motive := fun _ => Nat → Option Nat) (fun _ => none) (fun h _ ih k => bif Nat.beq h.2.2.1 op && (q_nb h.2.2.2.1 a && q_nb h.2.2.2.2 b) then some k else ih (Nat.succ k)) env k0 = some s → ∃ e, k0 ≤ s ∧ env[s - k0]? = some e ∧ e.2.2.1 = op ∧ e.2.2.2.1 = a ∧ e.2.2.2.2 = b
  | [], k0, s, h => by cases h
  | e :: r, k0, s, h => by
    have h : (bif Nat.beq e.2.2.1 op && (q_nb e.2.2.2.1 a && q_nb e.2.2.2.2 b) then some k0 else List.rec (motive := fun _ => Nat → Option Nat) (fun _ => none) (fun h _ ih k => bif Nat.beq h.2.2.1 op && (q_nb h.2.2.2.1 a && q_nb h.2.2.2.2 b) then some k else ih (Nat.succ k)) r (Nat.succ k0)) = some s := h
    cases hb : (Nat.beq e.2.2.1 op && (q_nb e.2.2.2.1 a && q_nb e.2.2.2.2 b)) with
    | true =>
      rw [hb] at h
      cases h
      rw [Bool.and_eq_true, Bool.and_eq_true] at hb
      exact ⟨e, Nat.le_refl _, by simp, Nat.eq_of_beq_eq_true hb.1, q_nb_ok hb.2.1, q_nb_ok hb.2.2⟩
    | false =>
      rw [hb] at h
      obtain ⟨e2, h1, h2, h3⟩ := q_cse_ok op a b r (Nat.succ k0) s h
      refine ⟨e2, by omega, ?_, h3⟩
      have : s - k0 = (s - Nat.succ k0) + 1 := by omega
      rw [this]
      simpa using h2
noncomputable def q_bok (k : q_N → q_S → Bool) (ρ : List Int) (z : Int) : Prop := ∃ ρ' env' v, q_px ρ ρ' ∧ q_re ρ' env' ∧ q_r ρ' v z ∧ k v env' = true
theorem q_m1_and (y : Int32) : (-1 : Int32) &&& y = y := by
  apply Int32.toBitVec_inj.mp
  rw [Int32.toBitVec_and]
  have : (-1 : Int32).toBitVec = BitVec.allOnes 32 := by decide
  rw [this, BitVec.allOnes_and]
noncomputable def q_ro (ρ : List Int) (v : Option q_V) (r : Option Value) : Prop := match v, r with
  | none, none => True
  | some v, some w => q_rv ρ v w
  | _, _ => False
end Prt18
section Prt19
theorem v_mx_l (a b : Int) : a ≤ v_mx a b := by
  unfold v_mx
  cases h : q_ile a b with
  | true => exact (q_ile_ok _ _).mp h
  | false => exact Int.le_refl _
theorem v_mx_r (a b : Int) : b ≤ v_mx a b := by
  unfold v_mx
  cases h : q_ile a b with
  | true => exact Int.le_refl _
  | false => exact Int.le_of_lt (q_ile_f h)
theorem v_mx_le {a b c : Int} (h1 : a ≤ c) (h2 : b ≤ c) : v_mx a b ≤ c := by
  unfold v_mx
  cases h : q_ile a b with
  | true => exact h2
  | false => exact h1
theorem v_mn_l (a b : Int) : v_mn a b ≤ a := by
  unfold v_mn
  cases h : q_ile a b with
  | true => exact Int.le_refl _
  | false => exact Int.le_of_lt (q_ile_f h)
theorem v_mn_r (a b : Int) : v_mn a b ≤ b := by
  unfold v_mn
  cases h : q_ile a b with
  | true => exact (q_ile_ok _ _).mp h
  | false => exact Int.le_refl _
theorem v_le_mn {a b c : Int} (h1 : c ≤ a) (h2 : c ≤ b) : c ≤ v_mn a b := by
  unfold v_mn
  cases h : q_ile a b with
  | true => exact h1
  | false => exact h2
theorem v_nn {x : Int32} (h : 0 ≤ x.toInt) : x.toInt = (x.toBitVec.toNat : Int) ∧ x.toBitVec.toNat < 2 ^ 31 := by
  have e2 : x.toInt = x.toBitVec.toInt := rfl
  rw [e2] at h ⊢
  have h3 := x.toBitVec.isLt
  rw [BitVec.toInt_eq_toNat_cond] at h ⊢
  split at h
  · rename_i h4
    rw [if_pos h4]
    exact ⟨rfl, by omega⟩
  · omega
theorem v_nn2 {x : Int32} (h : x.toBitVec.toNat < 2 ^ 31) : x.toInt = (x.toBitVec.toNat : Int) := by
  have e2 : x.toInt = x.toBitVec.toInt := rfl
  rw [e2, BitVec.toInt_eq_toNat_cond, if_pos (by omega)]
theorem v_cap_ok {a b : Int} {m n : Nat} (h1 : (m : Int) ≤ a) (h2 : (n : Int) ≤ b) : ∃ k : Nat, v_cap a b = ((2 ^ k - 1 : Nat) : Int) ∧ m < 2 ^ k ∧ n < 2 ^ k := by
  refine ⟨Nat.log2 (v_mx a b).toNat + 1, rfl, ?_, ?_⟩
  · have h3 := v_mx_l a b
    have h4 := Nat.lt_log2_self (n := (v_mx a b).toNat)
    omega
  · have h3 := v_mx_r a b
    have h4 := Nat.lt_log2_self (n := (v_mx a b).toNat)
    omega
theorem v_or_ok {x y : Int32} {p q : Int × Int} (h1 : p.1 ≤ x.toInt ∧ x.toInt ≤ p.2) (h2 : q.1 ≤ y.toInt ∧ y.toInt ≤ q.2) (b1 : 0 ≤ p.1) (b2 : 0 ≤ q.1) : v_mx p.1 q.1 ≤ (x ||| y).toInt ∧ (x ||| y).toInt ≤ v_cap p.2 q.2 := by
  obtain ⟨e1, l1⟩ := v_nn (x := x) (by omega)
  obtain ⟨e2, l2⟩ := v_nn (x := y) (by omega)
  have e3 : (x ||| y).toBitVec.toNat = x.toBitVec.toNat ||| y.toBitVec.toNat := by
    rw [Int32.toBitVec_or, BitVec.toNat_or]
  have l3 : (x ||| y).toBitVec.toNat < 2 ^ 31 := by rw [e3]; exact Nat.or_lt_two_pow l1 l2
  rw [v_nn2 l3, e3]
  obtain ⟨k, ek, k1, k2⟩ := v_cap_ok (a := p.2) (b := q.2) (m := x.toBitVec.toNat) (n := y.toBitVec.toNat) (by omega) (by omega)
  have k3 := Nat.or_lt_two_pow k1 k2
  rw [ek]
  have l4 : x.toBitVec.toNat ≤ x.toBitVec.toNat ||| y.toBitVec.toNat := Nat.left_le_or
  have l5 : y.toBitVec.toNat ≤ x.toBitVec.toNat ||| y.toBitVec.toNat := Nat.right_le_or
  exact ⟨v_mx_le (by omega) (by omega), by omega⟩
theorem v_xor_ok {x y : Int32} {p q : Int × Int} (h1 : p.1 ≤ x.toInt ∧ x.toInt ≤ p.2) (h2 : q.1 ≤ y.toInt ∧ y.toInt ≤ q.2) (b1 : 0 ≤ p.1) (b2 : 0 ≤ q.1) : 0 ≤ (x ^^^ y).toInt ∧ (x ^^^ y).toInt ≤ v_cap p.2 q.2 := by
  obtain ⟨e1, l1⟩ := v_nn (x := x) (by omega)
  obtain ⟨e2, l2⟩ := v_nn (x := y) (by omega)
  have e3 : (x ^^^ y).toBitVec.toNat = x.toBitVec.toNat ^^^ y.toBitVec.toNat := by
    rw [Int32.toBitVec_xor, BitVec.toNat_xor]
  have l3 : (x ^^^ y).toBitVec.toNat < 2 ^ 31 := by rw [e3]; exact Nat.xor_lt_two_pow l1 l2
  rw [v_nn2 l3, e3]
  obtain ⟨k, ek, k1, k2⟩ := v_cap_ok (a := p.2) (b := q.2) (m := x.toBitVec.toNat) (n := y.toBitVec.toNat) (by omega) (by omega)
  have k3 := Nat.xor_lt_two_pow k1 k2
  rw [ek]
  exact ⟨by omega, by omega⟩
theorem v_shl1 : ∀ k : Fin 31, ((1 : Int32) <<< (Int32.ofInt ((k : Nat) : Int) &&& 31)).toInt = ((2 ^ (k : Nat) : Nat) : Int) := by decide
theorem v_shl_ok {x y : Int32} {q : Int × Int} (h1 : x.toInt = 1) (h2 : q.1 ≤ y.toInt ∧ y.toInt ≤ q.2) (b1 : 0 ≤ q.1) (b2 : q.2 ≤ 30) : ((2 ^ q.1.toNat : Nat) : Int) ≤ (x <<< (y &&& 31)).toInt ∧ (x <<< (y &&& 31)).toInt ≤ ((2 ^ q.2.toNat : Nat) : Int) := by
  have ex : x = 1 := q_inj (by rw [h1]; rfl)
  subst ex
  have ey : y = Int32.ofInt ((y.toInt.toNat : Nat) : Int) := by
    rw [show ((y.toInt.toNat : Nat) : Int) = y.toInt by omega, q_of]
  have hk := v_shl1 ⟨y.toInt.toNat, by omega⟩
  dsimp only at hk
  rw [← ey] at hk
  rw [hk]
  have m1 : 2 ^ q.1.toNat ≤ 2 ^ y.toInt.toNat := Nat.pow_le_pow_right (by omega) (by omega)
  have m2 : 2 ^ y.toInt.toNat ≤ 2 ^ q.2.toNat := Nat.pow_le_pow_right (by omega) (by omega)
  exact ⟨Int.ofNat_le.mpr m1, Int.ofNat_le.mpr m2⟩
theorem v_shr_ok {x : Int32} (y : Int32) (h : 0 ≤ x.toInt) : 0 ≤ (x >>> y).toInt ∧ (x >>> y).toInt ≤ x.toInt := by
  have e : (x >>> y).toInt = x.toBitVec.toInt >>> (y.toBitVec.smod 32).toNat := by
    show (x >>> y).toBitVec.toInt = _
    rw [Int32.toBitVec_shiftRight, BitVec.sshiftRight_eq', BitVec.toInt_sshiftRight]
  have e2 : x.toInt = x.toBitVec.toInt := rfl
  rw [e, e2, Int.shiftRight_eq_div_pow]
  rw [e2] at h
  have hp : (0 : Int) < ((2 ^ (y.toBitVec.smod 32).toNat : Nat) : Int) := Int.ofNat_lt.mpr (Nat.two_pow_pos _)
  exact ⟨Int.ediv_nonneg h (Int.le_of_lt hp), Int.ediv_le_self _ h⟩
theorem v_div_e {x y : Int32} (h1 : 0 ≤ x.toInt) (h2 : 1 ≤ y.toInt) : (x / y).toInt = x.toInt.tdiv y.toInt ∧ 0 ≤ x.toInt.tdiv y.toInt ∧ x.toInt.tdiv y.toInt ≤ x.toInt := by
  have n1 : 0 ≤ x.toInt.tdiv y.toInt := Int.tdiv_nonneg h1 (by omega)
  have n2 : x.toInt.tdiv y.toInt ≤ x.toInt := Int.tdiv_le_self _ h1
  have r1 := q_rng x
  refine ⟨?_, n1, n2⟩
  rw [Int32.toInt_div]
  exact Int.bmod_eq_of_le (by omega) (by omega)
theorem v_rem_ok {x y : Int32} {p q : Int × Int} (h1 : p.1 ≤ x.toInt ∧ x.toInt ≤ p.2) (h2 : q.1 ≤ y.toInt ∧ y.toInt ≤ q.2) (b1 : 0 ≤ p.1) (b2 : 1 ≤ q.1) : 0 ≤ (x - x / y * y).toInt ∧ (x - x / y * y).toInt ≤ v_mn p.2 (q.2 - 1) := by
  obtain ⟨e1, n1, n2⟩ := v_div_e (x := x) (y := y) (by omega) (by omega)
  have t0 : x.toInt.tmod y.toInt = x.toInt - y.toInt * x.toInt.tdiv y.toInt := Int.tmod_def _ _
  have t1 : 0 ≤ x.toInt.tmod y.toInt := Int.tmod_nonneg _ (by omega)
  have t2 : x.toInt.tmod y.toInt < y.toInt := Int.tmod_lt_of_pos _ (by omega)
  have n3 : 0 ≤ y.toInt * x.toInt.tdiv y.toInt := Int.mul_nonneg (by omega) n1
  have r1 := q_rng x
  have em : (x / y * y).toInt = y.toInt * x.toInt.tdiv y.toInt := by
    rw [← q_of (x / y), ← q_of y, ← Int32.ofInt_mul, q_of, e1, Int.mul_comm]
    exact q_ofr (by omega) (by omega)
  have es : (x - x / y * y).toInt = x.toInt.tmod y.toInt := by
    rw [← q_of x, ← q_of (Int32.ofInt x.toInt / y * y), ← Int32.ofInt_sub, q_of, em, ← t0]
    exact q_ofr (by omega) (by omega)
  rw [es]
  exact ⟨t1, v_le_mn (by omega) (by omega)⟩
theorem v_popN_le : ∀ (f k n : Nat), n < 2 ^ k → v_popN f n ≤ k
  | 0, k, n, _ => Nat.zero_le _
  | f + 1, 0, n, h => by
    have : n = 0 := by simpa using h
    subst this
    have := v_popN_le f 0 0 (by decide)
    show 0 % 2 + v_popN f (0 / 2) ≤ 0
    simpa using this
  | f + 1, k + 1, n, h => by
    have := v_popN_le f k (n / 2) (by rw [Nat.pow_succ] at h; omega)
    show n % 2 + v_popN f (n / 2) ≤ k + 1
    omega
theorem v_popN_f : ∀ (f n : Nat), v_popN f n ≤ f
  | 0, _ => Nat.le_refl _
  | f + 1, n => by
    have := v_popN_f f (n / 2)
    show n % 2 + v_popN f (n / 2) ≤ f + 1
    omega
theorem v_popN_pos : ∀ (f n : Nat), n < 2 ^ f → 1 ≤ n → 1 ≤ v_popN f n
  | 0, n, h, h2 => by
    have : n = 0 := by simpa using h
    omega
  | f + 1, n, h, h2 => by
    show 1 ≤ n % 2 + v_popN f (n / 2)
    by_cases hn : n % 2 = 0
    · have := v_popN_pos f (n / 2) (by rw [Nat.pow_succ] at h; omega) (by omega)
      omega
    · omega
theorem v_pop_e (x : Int32) : (v_pop x).toInt = ((v_popN 32 x.toBitVec.toNat : Nat) : Int) := by
  have := v_popN_f 32 x.toBitVec.toNat
  show (Int32.ofInt ((v_popN 32 x.toBitVec.toNat : Nat) : Int)).toInt = _
  exact q_ofr (by omega) (by omega)
theorem v_pop_ok {x : Int32} {p : Int × Int} (h1 : p.1 ≤ x.toInt ∧ x.toInt ≤ p.2) (b1 : 0 ≤ p.1) : (bif q_ile 1 p.1 then (1 : Int) else 0) ≤ (v_pop x).toInt ∧ (v_pop x).toInt ≤ (bif q_ieq p.2 0 then 0 else ((Nat.log2 p.2.toNat + 1 : Nat) : Int)) := by
  obtain ⟨e1, l1⟩ := v_nn (x := x) (by omega)
  rw [v_pop_e]
  constructor
  · cases h : q_ile 1 p.1 with
    | false => show (0 : Int) ≤ _; omega
    | true =>
      rw [q_ile_ok] at h
      have := v_popN_pos 32 x.toBitVec.toNat x.toBitVec.isLt (by omega)
      show (1 : Int) ≤ _
      omega
  · cases h : q_ieq p.2 0 with
    | true =>
      rw [q_ieq_ok] at h
      have := v_popN_le 32 0 x.toBitVec.toNat (by simp; omega)
      show _ ≤ (0 : Int)
      omega
    | false =>
      have h4 := Nat.lt_log2_self (n := p.2.toNat)
      have := v_popN_le 32 (Nat.log2 p.2.toNat + 1) x.toBitVec.toNat (by omega)
      show _ ≤ ((Nat.log2 p.2.toNat + 1 : Nat) : Int)
      omega
theorem v_ivop_ok (op : Nat) {x y : Int32} {p q : Int × Int} (h1 : p.1 ≤ x.toInt ∧ x.toInt ≤ p.2) (h2 : q.1 ≤ y.toInt ∧ y.toInt ≤ q.2) : (v_ivop op p q).1 ≤ (q_F op x y).toInt ∧ (q_F op x y).toInt ≤ (v_ivop op p q).2 := by
  have hall : ∀ w : Int32, (-2147483648 : Int) ≤ w.toInt ∧ w.toInt ≤ 2147483647 := q_rng
  unfold v_ivop
  split
  · show _ ≤ (x + y).toInt ∧ (x + y).toInt ≤ _
    cases hb : (q_ile (-2147483648) (p.1 + q.1) && q_ile (p.2 + q.2) 2147483647) with
    | false => exact hall _
    | true =>
      rw [Bool.and_eq_true, q_ile_ok, q_ile_ok] at hb
      have e : (x + y).toInt = x.toInt + y.toInt := by
        rw [← q_of x, ← q_of y, ← Int32.ofInt_add, q_of, q_of]
        exact q_ofr (by omega) (by omega)
      rw [e]
      dsimp only [cond_true]
      constructor <;> omega
  · show _ ≤ (x - y).toInt ∧ (x - y).toInt ≤ _
    cases hb : (q_ile (-2147483648) (p.1 - q.2) && q_ile (p.2 - q.1) 2147483647) with
    | false => exact hall _
    | true =>
      rw [Bool.and_eq_true, q_ile_ok, q_ile_ok] at hb
      have e : (x - y).toInt = x.toInt - y.toInt := by
        rw [← q_of x, ← q_of y, ← Int32.ofInt_sub, q_of, q_of]
        exact q_ofr (by omega) (by omega)
      rw [e]
      dsimp only [cond_true]
      constructor <;> omega
  · show _ ≤ (x * y).toInt ∧ (x * y).toInt ≤ _
    cases hb : (q_ile 0 p.1 && (q_ile 0 q.1 && q_ile (p.2 * q.2) 2147483647)) with
    | false => exact hall _
    | true =>
      rw [Bool.and_eq_true, Bool.and_eq_true, q_ile_ok, q_ile_ok, q_ile_ok] at hb
      obtain ⟨b1, b2, b3⟩ := hb
      have m0 : 0 ≤ p.1 * q.1 := Int.mul_nonneg b1 b2
      have m1 : p.1 * q.1 ≤ x.toInt * y.toInt := Int.mul_le_mul h1.1 h2.1 b2 (by omega)
      have m2 : x.toInt * y.toInt ≤ p.2 * q.2 := Int.mul_le_mul h1.2 h2.2 (by omega) (by omega)
      have e : (x * y).toInt = x.toInt * y.toInt := by
        rw [← q_of x, ← q_of y, ← Int32.ofInt_mul, q_of, q_of]
        exact q_ofr (by omega) (by omega)
      rw [e]
      exact ⟨m1, m2⟩
  · show _ ≤ (x &&& y).toInt ∧ (x &&& y).toInt ≤ _
    cases hb : q_ile 0 q.1 with
    | true =>
      rw [q_ile_ok] at hb
      have g1 := q_and_iv (x := x) (y := y) (by omega)
      cases hc : q_ile 0 p.1 with
      | true =>
        rw [q_ile_ok] at hc
        have g2 := q_and_iv (x := y) (y := x) (by omega)
        rw [q_and_comm] at g2
        exact ⟨g1.1, v_le_mn (by omega) (by omega)⟩
      | false =>
        dsimp only [cond_true, cond_false]
        constructor <;> omega
    | false =>
      cases hc : q_ile 0 p.1 with
      | true =>
        rw [q_ile_ok] at hc
        have := q_and_iv (x := y) (y := x) (by omega)
        rw [q_and_comm]
        dsimp only [cond_true, cond_false]
        constructor <;> omega
      | false => exact hall _
  · show _ ≤ (x ||| y).toInt ∧ (x ||| y).toInt ≤ _
    cases hb : (q_ile 0 p.1 && q_ile 0 q.1) with
    | false => exact hall _
    | true =>
      rw [Bool.and_eq_true, q_ile_ok, q_ile_ok] at hb
      exact v_or_ok h1 h2 hb.1 hb.2
  · show _ ≤ (x ^^^ y).toInt ∧ (x ^^^ y).toInt ≤ _
    cases hb : (q_ile 0 p.1 && q_ile 0 q.1) with
    | false => exact hall _
    | true =>
      rw [Bool.and_eq_true, q_ile_ok, q_ile_ok] at hb
      exact v_xor_ok h1 h2 hb.1 hb.2
  · show _ ≤ (x <<< (y &&& 31)).toInt ∧ (x <<< (y &&& 31)).toInt ≤ _
    cases hb : ((q_ieq p.1 1 && q_ieq p.2 1) && (q_ile 0 q.1 && q_ile q.2 30)) with
    | false => exact hall _
    | true =>
      rw [Bool.and_eq_true, Bool.and_eq_true, Bool.and_eq_true, q_ieq_ok, q_ieq_ok, q_ile_ok, q_ile_ok] at hb
      exact v_shl_ok (by omega) h2 hb.2.1 hb.2.2
  · show _ ≤ (x >>> (y &&& 31)).toInt ∧ (x >>> (y &&& 31)).toInt ≤ _
    cases hb : q_ile 0 p.1 with
    | false => exact hall _
    | true =>
      rw [q_ile_ok] at hb
      have := v_shr_ok (x := x) (y &&& 31) (by omega)
      exact ⟨this.1, Int.le_trans this.2 h1.2⟩
  · show _ ≤ (x / y).toInt ∧ (x / y).toInt ≤ _
    cases hb : (q_ile 0 p.1 && q_ile 1 q.1) with
    | false => exact hall _
    | true =>
      rw [Bool.and_eq_true, q_ile_ok, q_ile_ok] at hb
      obtain ⟨e1, n1, n2⟩ := v_div_e (x := x) (y := y) (by omega) (by omega)
      rw [e1]
      exact ⟨n1, Int.le_trans n2 h1.2⟩
  · show _ ≤ (x - x / y * y).toInt ∧ (x - x / y * y).toInt ≤ _
    cases hb : (q_ile 0 p.1 && q_ile 1 q.1) with
    | false => exact hall _
    | true =>
      rw [Bool.and_eq_true, q_ile_ok, q_ile_ok] at hb
      exact v_rem_ok h1 h2 hb.1 hb.2
  · show _ ≤ (if x < y then y else x).toInt ∧ (if x < y then y else x).toInt ≤ _
    have m1 := v_mx_l p.2 q.2
    have m2 := v_mx_r p.2 q.2
    split
    · rename_i hl
      rw [Int32.lt_iff_toInt_lt] at hl
      exact ⟨v_mx_le (by omega) (by omega), by dsimp only; omega⟩
    · rename_i hl
      rw [Int32.lt_iff_toInt_lt] at hl
      exact ⟨v_mx_le (by omega) (by omega), by dsimp only; omega⟩
  · show _ ≤ (if y < x then y else x).toInt ∧ (if y < x then y else x).toInt ≤ _
    have m1 := v_mn_l p.1 q.1
    have m2 := v_mn_r p.1 q.1
    split
    · rename_i hl
      rw [Int32.lt_iff_toInt_lt] at hl
      exact ⟨by dsimp only; omega, v_le_mn (by omega) (by omega)⟩
    · rename_i hl
      rw [Int32.lt_iff_toInt_lt] at hl
      exact ⟨by dsimp only; omega, v_le_mn (by omega) (by omega)⟩
  · show _ ≤ (v_pop x).toInt ∧ (v_pop x).toInt ≤ _
    cases hb : q_ile 0 p.1 with
    | false =>
      have := v_popN_f 32 x.toBitVec.toNat
      rw [v_pop_e]
      dsimp only [cond_false]
      constructor <;> omega
    | true =>
      rw [q_ile_ok] at hb
      exact v_pop_ok h1 hb
  · exact hall _
theorem v_bd1_ok {ρ : List Int} {env : q_S} (he : q_re ρ env) {s : Nat} {x lo hi : Int} (hs : ρ[s]? = some x) (h1 : lo ≤ x) (h2 : x ≤ hi) : q_re ρ (v_bd1 env s lo hi) := by
  unfold v_bd1
  simp only [q_nth_eq, q_put_eq]
  split
  · rename_i e hes
    refine ⟨by rw [List.length_set]; exact he.1, fun k e' hk => ?_⟩
    by_cases hks : k = s
    · subst hks
      rw [List.getElem?_set_self (List.getElem?_eq_some_iff.mp hes).1] at hk
      cases hk
      obtain ⟨y, h3, h4, h5, h6⟩ := he.2 k e hes
      have : x = y := Option.some.inj (hs.symm.trans h3)
      subst this
      exact ⟨x, hs, v_mx_le h4 h1, v_le_mn h5 h2, h6⟩
    · rw [List.getElem?_set_ne (Ne.symm hks)] at hk
      exact he.2 k e' hk
  · exact he
theorem v_andnot {u w : Int32} (h1 : 0 ≤ u.toInt) (h2 : 0 ≤ w.toInt) (h : u &&& (w ^^^ (-1)) = 0) : u.toInt ≤ w.toInt := by
  have hb : u.toBitVec &&& w.toBitVec = u.toBitVec := by
    have h3 : u.toBitVec &&& (w.toBitVec ^^^ BitVec.allOnes 32) = 0#32 := by
      have e : (-1 : Int32).toBitVec = BitVec.allOnes 32 := by decide
      have := congrArg Int32.toBitVec h
      rw [Int32.toBitVec_and, Int32.toBitVec_xor, e] at this
      exact this
    apply BitVec.eq_of_getLsbD_eq
    intro i hi
    have h4 := congrArg (fun b => b.getLsbD i) h3
    simp only [BitVec.getLsbD_and, BitVec.getLsbD_xor, BitVec.getLsbD_allOnes, BitVec.getLsbD_zero, hi, decide_true] at h4 ⊢
    cases hu : u.toBitVec.getLsbD i <;> cases hw : w.toBitVec.getLsbD i <;> simp [hu, hw] at h4 ⊢
  have e2 : (u.toBitVec &&& w.toBitVec).toNat ≤ w.toBitVec.toNat := by
    rw [BitVec.toNat_and]
    exact Nat.and_le_right
  rw [hb] at e2
  rw [(v_nn h1).1, (v_nn h2).1]
  exact Int.ofNat_le.mpr e2
theorem v_bd_ok {ρ : List Int} {env : q_S} (he : q_re ρ env) {s : Nat} {x lo hi : Int} (hs : ρ[s]? = some x) (h1 : lo ≤ x) (h2 : x ≤ hi) : q_re ρ (v_bd env s lo hi) := by
  unfold v_bd
  rw [q_nth_eq]
  split
  · rename_i e hes
    have he1 := v_bd1_ok he hs h1 h2
    obtain ⟨y, h3, h4, h5, h6⟩ := he.2 s e hes
    have : x = y := Option.some.inj (hs.symm.trans h3)
    subst this
    obtain ⟨lo0, hi0, op, a, b⟩ := e
    dsimp only at h6
    unfold v_bk
    dsimp only
    split
    · rename_i t c
      rcases h6 with h6 | ⟨u, v, c1, c2, c3⟩
      · cases h6
      · have c2 : v.toInt = c := c2
        have c1 : ρ[t]? = some u.toInt := c1
        have iv := q_iv_ok he1 (a := .inr t) (x := u.toInt) c1
        cases hb : (q_ile (-2147483648) ((q_iv (v_bd1 env s lo hi) (.inr t)).1 + c) && q_ile ((q_iv (v_bd1 env s lo hi) (.inr t)).2 + c) 2147483647) with
        | false => exact he1
        | true =>
          rw [Bool.and_eq_true, q_ile_ok, q_ile_ok] at hb
          have e9 : (u + v).toInt = u.toInt + v.toInt := by
            rw [← q_of u, ← q_of v, ← Int32.ofInt_add, q_of, q_of]
            exact q_ofr (by omega) (by omega)
          have c3 : x = (u + v).toInt := c3
          exact v_bd1_ok he1 c1 (by omega) (by omega)
    · rename_i s0 t
      rcases h6 with h6 | ⟨u, v, c1, c2, c3⟩
      · cases h6
      · have c3 : x = (u &&& v).toInt := c3
        have c1 : ρ[s0]? = some u.toInt := c1
        have iv := q_iv_ok he1 (a := .inr s0) (x := u.toInt) c1
        cases hb : ((q_ieq lo 0 && q_ieq hi 0) && q_ile 0 (q_iv (v_bd1 env s lo hi) (.inr s0)).1) with
        | false => exact he1
        | true =>
          dsimp only [cond_true]
          rw [Bool.and_eq_true, Bool.and_eq_true, q_ieq_ok, q_ieq_ok, q_ile_ok] at hb
          split
          · rename_i f hf
            rw [q_nth_eq] at hf
            obtain ⟨yv, k1, -, -, k4⟩ := he1.2 t f hf
            have k5 : yv = v.toInt := Option.some.inj (k1.symm.trans (show ρ[t]? = some v.toInt from c2))
            obtain ⟨flo, fhi, fop, fa, fb⟩ := f
            dsimp only at k4 ⊢
            split
            · rename_i c
              cases hb2 : (q_ieq c (-1) && q_ile 0 (q_iv (v_bd1 env s lo hi) fa).1) with
              | false => exact he1
              | true =>
                rw [Bool.and_eq_true, q_ieq_ok, q_ile_ok] at hb2
                rcases k4 with k4 | ⟨w, m, d1, d2, d3⟩
                · cases k4
                · have d2 : m.toInt = c := d2
                  have d3 : yv = (w ^^^ m).toInt := d3
                  have iw := q_iv_ok he1 d1
                  have em : m = -1 := q_inj (by rw [d2, hb2.1]; rfl)
                  have ev : v = w ^^^ (-1) := q_inj (by rw [← k5, d3, em])
                  have e0 : u &&& (w ^^^ (-1)) = 0 := q_inj (by rw [← ev, ← c3]; show x = 0; omega)
                  have := v_andnot (u := u) (w := w) (by omega) (by omega) e0
                  exact v_bd1_ok he1 c1 (by omega) (by omega)
            · exact he1
          · exact he1
    · exact he1
  · exact he
theorem v_bin3_ok {ρ : List Int} {env : q_S} (he : q_re ρ env) {op : Nat} (hop : op ≠ 0) {a b : q_N} {x y : Int32} (ha : q_r ρ a x.toInt) (hb : q_r ρ b y.toInt) {k : q_N → q_S → Bool} (h : v_bin3 op a b env k = true) : q_bok k ρ (q_F op x y).toInt := by
  unfold v_bin3 at h
  split at h
  · rename_i s hs
    obtain ⟨e, -, h2, h3, h4, h5⟩ := q_cse_ok op a b env 0 s hs
    obtain ⟨z, b1, -, -, b4⟩ := he.2 _ e h2
    rcases b4 with b4 | ⟨u, v, c1, c2, c3⟩
    · exact absurd (h3.symm.trans b4) hop
    · rw [h4] at c1
      rw [h5] at c2
      have e1 := q_inj (q_r_inj c1 ha)
      have e2 := q_inj (q_r_inj c2 hb)
      subst e1 e2
      rw [h3] at c3
      refine ⟨ρ, env, .inr s, q_px_rf ρ, he, ?_, h⟩
      show ρ[s]? = some _
      rw [← c3]
      exact b1
  · have hi := v_ivop_ok op (q_iv_ok he ha) (q_iv_ok he hb)
    obtain ⟨n1, n2, n3⟩ := q_new_ok he (e := ((v_ivop op (q_iv env a) (q_iv env b)).1, (v_ivop op (q_iv env a) (q_iv env b)).2, op, a, b)) hi.1 hi.2 (Or.inr ⟨x, y, ha, hb, rfl⟩)
    exact ⟨_, _, _, n1, n2, n3, h⟩
theorem v_bin_ok {ρ : List Int} {env : q_S} (he : q_re ρ env) {op : Nat} (hop : op ≠ 0) {a b : q_N} {x y : Int32} (ha : q_r ρ a x.toInt) (hb : q_r ρ b y.toInt) {k : q_N → q_S → Bool} (h : v_bin op a b env k = true) : q_bok k ρ (q_F op x y).toInt := by
  have hz : ∀ w : Int32, w.toInt = 0 → w = 0 := fun w hw => q_inj (by rw [hw]; rfl)
  have hm : ∀ w : Int32, w.toInt = -1 → w = -1 := fun w hw => q_inj (by rw [hw]; rfl)
  unfold v_bin at h
  split at h
  · rename_i c hc
    have e1 := q_c_ok he ha hc
    split at h
    · rename_i d hd
      have e2 := q_c_ok he hb hd
      refine ⟨ρ, env, _, q_px_rf ρ, he, ?_, h⟩
      rw [← e1, ← e2]
      exact (q_fold_ok op x y).symm
    · cases h1 : (Nat.beq op 4 && q_ieq c 0) with
      | true =>
        rw [h1] at h
        rw [Bool.and_eq_true, q_ieq_ok] at h1
        have e4 := Nat.eq_of_beq_eq_true h1.1
        subst e4
        refine ⟨ρ, env, _, q_px_rf ρ, he, ?_, h⟩
        rw [hz x (e1.trans h1.2)]
        show ((0 : Int32) &&& y).toInt = 0
        rw [Int32.zero_and]
        rfl
      | false =>
        rw [h1] at h
        cases h2 : (Nat.beq op 4 && q_ieq c (-1)) with
        | true =>
          rw [h2] at h
          rw [Bool.and_eq_true, q_ieq_ok] at h2
          have e4 := Nat.eq_of_beq_eq_true h2.1
          subst e4
          refine ⟨ρ, env, _, q_px_rf ρ, he, ?_, h⟩
          rw [hm x (e1.trans h2.2)]
          show q_r ρ b ((-1 : Int32) &&& y).toInt
          rw [q_m1_and]
          exact hb
        | false =>
          rw [h2] at h
          exact v_bin3_ok he hop ha hb h
  · split at h
    · rename_i d hd
      have e2 := q_c_ok he hb hd
      cases h1 : (Nat.beq op 4 && q_ieq d 0) with
      | true =>
        rw [h1] at h
        rw [Bool.and_eq_true, q_ieq_ok] at h1
        have e4 := Nat.eq_of_beq_eq_true h1.1
        subst e4
        refine ⟨ρ, env, _, q_px_rf ρ, he, ?_, h⟩
        rw [hz y (e2.trans h1.2)]
        show (x &&& (0 : Int32)).toInt = 0
        rw [Int32.and_zero]
        rfl
      | false =>
        rw [h1] at h
        cases h2 : (Nat.beq op 4 && q_ieq d (-1)) with
        | true =>
          rw [h2] at h
          rw [Bool.and_eq_true, q_ieq_ok] at h2
          have e4 := Nat.eq_of_beq_eq_true h2.1
          subst e4
          refine ⟨ρ, env, _, q_px_rf ρ, he, ?_, h⟩
          rw [hm y (e2.trans h2.2)]
          show q_r ρ a (x &&& (-1 : Int32)).toInt
          rw [q_and_comm, q_m1_and]
          exact ha
        | false =>
          rw [h2] at h
          exact v_bin3_ok he hop ha hb h
    · exact v_bin3_ok he hop ha hb h
theorem v_en_ok {ρ : List Int} {env : q_S} (he : q_re ρ env) {s : Nat} {x hi : Int} (hs : ρ[s]? = some x) (h2 : x ≤ hi) {k : Int → q_S → Bool} : ∀ (fuel : Nat) (lo : Int), lo ≤ x → v_en s hi env k fuel lo = true → ∃ env', q_re ρ env' ∧ k x env' = true
  | 0, lo, _, h => by cases h
  | n + 1, lo, hl, h => by
    have h : (k lo (v_bd env s lo lo) && (bif q_ile hi lo then true else v_en s hi env k n (lo + 1))) = true := h
    rw [Bool.and_eq_true] at h
    by_cases e : lo = x
    · subst e
      exact ⟨_, v_bd_ok he hs (Int.le_refl _) (Int.le_refl _), h.1⟩
    · cases hb : q_ile hi lo with
      | true => rw [q_ile_ok] at hb; omega
      | false =>
        rw [hb] at h
        exact v_en_ok he hs h2 n (lo + 1) (by omega) h.2
theorem v_need_ok {ρ : List Int} {env : q_S} (he : q_re ρ env) {a : q_N} {x : Int} (ha : q_r ρ a x) {k : Int → q_S → Bool} (h : v_need a env k = true) : ∃ env', q_re ρ env' ∧ k x env' = true := by
  cases a with
  | inl c => have ha : x = c := ha; subst ha; exact ⟨env, he, h⟩
  | inr s =>
    have hi := q_iv_ok he ha
    exact v_en_ok he ha hi.2 64 _ hi.1 h
theorem v_eq3_ok {ρ : List Int} {env : q_S} (he : q_re ρ env) {s : Nat} {x lo hi c : Int} (hs : ρ[s]? = some x) (h1 : lo ≤ x) (h2 : x ≤ hi) {kt kf : q_S → Bool} (h : v_eq3 s lo hi c env kt kf = true) : (x = c ∧ ∃ env', q_re ρ env' ∧ kt env' = true) ∨ (¬ x = c ∧ ∃ env', q_re ρ env' ∧ kf env' = true) := by
  unfold v_eq3 at h
  rw [Bool.and_eq_true, Bool.and_eq_true] at h
  obtain ⟨a1, a2, a3⟩ := h
  by_cases e : x = c
  · subst e
    exact Or.inl ⟨rfl, _, v_bd_ok he hs (Int.le_refl _) (Int.le_refl _), a1⟩
  · refine Or.inr ⟨e, ?_⟩
    by_cases hl : x < c
    · have : q_ilt lo c = true := (q_ilt_ok _ _).mpr (by omega)
      rw [this] at a2
      exact ⟨_, v_bd_ok he hs h1 (by omega), a2⟩
    · have : q_ilt c hi = true := (q_ilt_ok _ _).mpr (by omega)
      rw [this] at a3
      exact ⟨_, v_bd_ok he hs (by omega) h2, a3⟩
theorem v_eq_ok {ρ : List Int} {env : q_S} (he : q_re ρ env) {a b : q_N} {x y : Int} (ha : q_r ρ a x) (hb : q_r ρ b y) {kt kf : q_S → Bool} (h : v_eq a b env kt kf = true) : (x = y ∧ ∃ env', q_re ρ env' ∧ kt env' = true) ∨ (¬ x = y ∧ ∃ env', q_re ρ env' ∧ kf env' = true) := by
  have i1 := q_iv_ok he ha
  have i2 := q_iv_ok he hb
  unfold v_eq at h
  cases h0 : q_nb a b with
  | true =>
    rw [h0] at h
    have := q_nb_ok h0
    subst this
    exact Or.inl ⟨q_r_inj ha hb, env, he, h⟩
  | false =>
    rw [h0] at h
    cases h1 : q_ilt (q_iv env a).2 (q_iv env b).1 with
    | true =>
      rw [h1] at h
      rw [q_ilt_ok] at h1
      exact Or.inr ⟨by omega, env, he, h⟩
    | false =>
      rw [h1] at h
      cases h2 : q_ilt (q_iv env b).2 (q_iv env a).1 with
      | true =>
        rw [h2] at h
        rw [q_ilt_ok] at h2
        exact Or.inr ⟨by omega, env, he, h⟩
      | false =>
        rw [h2] at h
        dsimp only [cond_false] at h
        split at h
        · rename_i u v hu hv
          have e1 := q_c_ok he ha hu
          have e2 := q_c_ok he hb hv
          cases h3 : q_ieq u v with
          | true =>
            rw [h3] at h
            rw [q_ieq_ok] at h3
            exact Or.inl ⟨by omega, env, he, h⟩
          | false =>
            rw [h3] at h
            have := q_ieq_f h3
            exact Or.inr ⟨by omega, env, he, h⟩
        · rename_i v hu hv
          have e2 := q_c_ok he hb hv
          subst e2
          split at h
          · exact v_eq3_ok he ha i1.1 i1.2 h
          · cases h
        · rename_i u hu hv
          have e1 := q_c_ok he ha hu
          subst e1
          split at h
          · rcases v_eq3_ok he hb i2.1 i2.2 h with ⟨g1, g2⟩ | ⟨g1, g2⟩
            · exact Or.inl ⟨g1.symm, g2⟩
            · exact Or.inr ⟨fun e => g1 e.symm, g2⟩
          · cases h
        · split at h
          · rw [Bool.and_eq_true] at h
            by_cases hc : x = y
            · exact Or.inl ⟨hc, _, v_bd_ok (v_bd_ok he ha (by omega) (by omega)) hb (by omega) (by omega), h.1⟩
            · exact Or.inr ⟨hc, env, he, h.2⟩
          · cases h
theorem v_ltz_ok {ρ : List Int} {env : q_S} (he : q_re ρ env) {s t : Nat} {z : q_N} {x y : Int} (ha : ρ[s]? = some x) (hb : ρ[t]? = some y) (hz : q_r ρ z (x - y)) {kt kf : q_S → Bool} (h : v_ltz s t z env kt kf = true) : (x < y ∧ ∃ env', q_re ρ env' ∧ kt env' = true) ∨ (y ≤ x ∧ ∃ env', q_re ρ env' ∧ kf env' = true) := by
  have i1 := q_iv_ok he (a := .inr s) ha
  have i2 := q_iv_ok he (a := .inr t) hb
  have i3 := q_iv_ok he hz
  unfold v_ltz at h
  cases h1 : q_ile (q_iv env z).2 (-1) with
  | true =>
    rw [h1] at h
    rw [q_ile_ok] at h1
    exact Or.inl ⟨by omega, env, he, h⟩
  | false =>
    rw [h1] at h
    cases h2 : q_ile 0 (q_iv env z).1 with
    | true =>
      rw [h2] at h
      rw [q_ile_ok] at h2
      exact Or.inr ⟨by omega, env, he, h⟩
    | false =>
      rw [h2] at h
      dsimp only [cond_false] at h
      split at h
      · rename_i k
        have hz : ρ[k]? = some (x - y) := hz
        rw [Bool.and_eq_true] at h
        by_cases hc : x < y
        · exact Or.inl ⟨hc, _, v_bd_ok (v_bd_ok (v_bd_ok he hz i3.1 (by omega)) ha (by omega) (by omega)) hb (by omega) (by omega), h.1⟩
        · exact Or.inr ⟨by omega, _, v_bd_ok (v_bd_ok (v_bd_ok he hz (by omega) i3.2) ha (by omega) (by omega)) hb (by omega) (by omega), h.2⟩
      · rw [Bool.and_eq_true] at h
        by_cases hc : x < y
        · exact Or.inl ⟨hc, _, he, h.1⟩
        · exact Or.inr ⟨by omega, _, he, h.2⟩
theorem v_lt_ok {ρ : List Int} {env : q_S} (he : q_re ρ env) {a b : q_N} {x y : Int} (ha : q_r ρ a x) (hb : q_r ρ b y) {kt kf : q_S → Bool} (h : v_lt a b env kt kf = true) : (x < y ∧ ∃ ρ' env', q_px ρ ρ' ∧ q_re ρ' env' ∧ kt env' = true) ∨ (y ≤ x ∧ ∃ ρ' env', q_px ρ ρ' ∧ q_re ρ' env' ∧ kf env' = true) := by
  have i1 := q_iv_ok he ha
  have i2 := q_iv_ok he hb
  unfold v_lt at h
  cases h1 : q_ilt (q_iv env a).2 (q_iv env b).1 with
  | true =>
    rw [h1] at h
    rw [q_ilt_ok] at h1
    exact Or.inl ⟨by omega, ρ, env, q_px_rf ρ, he, h⟩
  | false =>
    rw [h1] at h
    cases h2 : q_ile (q_iv env b).2 (q_iv env a).1 with
    | true =>
      rw [h2] at h
      rw [q_ile_ok] at h2
      exact Or.inr ⟨by omega, ρ, env, q_px_rf ρ, he, h⟩
    | false =>
      rw [h2] at h
      dsimp only [cond_false] at h
      split at h
      · rename_i s d
        rw [Bool.and_eq_true] at h
        have hb : y = d := hb
        subst hb
        by_cases hc : x < y
        · exact Or.inl ⟨hc, ρ, _, q_px_rf ρ, v_bd_ok he ha i1.1 (by omega), h.1⟩
        · exact Or.inr ⟨by omega, ρ, _, q_px_rf ρ, v_bd_ok he ha (by omega) i1.2, h.2⟩
      · rename_i d s
        rw [Bool.and_eq_true] at h
        have ha : x = d := ha
        subst ha
        by_cases hc : x < y
        · exact Or.inl ⟨hc, ρ, _, q_px_rf ρ, v_bd_ok he hb (by omega) i2.2, h.1⟩
        · exact Or.inr ⟨by omega, ρ, _, q_px_rf ρ, v_bd_ok he hb i2.1 (by omega), h.2⟩
      · rename_i s t
        have plain : (kt (v_bd (v_bd env s (q_iv env (.inr s)).1 ((q_iv env (.inr t)).2 - 1)) t ((q_iv env (.inr s)).1 + 1) (q_iv env (.inr t)).2) && kf (v_bd (v_bd env s (q_iv env (.inr t)).1 (q_iv env (.inr s)).2) t (q_iv env (.inr t)).1 (q_iv env (.inr s)).2)) = true → (x < y ∧ ∃ ρ' env', q_px ρ ρ' ∧ q_re ρ' env' ∧ kt env' = true) ∨ (y ≤ x ∧ ∃ ρ' env', q_px ρ ρ' ∧ q_re ρ' env' ∧ kf env' = true) := by
          intro h
          rw [Bool.and_eq_true] at h
          by_cases hc : x < y
          · exact Or.inl ⟨hc, ρ, _, q_px_rf ρ, v_bd_ok (v_bd_ok he ha (by omega) (by omega)) hb (by omega) (by omega), h.1⟩
          · exact Or.inr ⟨by omega, ρ, _, q_px_rf ρ, v_bd_ok (v_bd_ok he ha (by omega) (by omega)) hb (by omega) (by omega), h.2⟩
        cases hcd : ((q_ile (-2147483648) ((q_iv env (.inr s)).1 - (q_iv env (.inr t)).2) && q_ile ((q_iv env (.inr s)).2 - (q_iv env (.inr t)).1) 2147483647) && ((q_ile (-2147483648) (q_iv env (.inr s)).1 && q_ile (q_iv env (.inr s)).2 2147483647) && (q_ile (-2147483648) (q_iv env (.inr t)).1 && q_ile (q_iv env (.inr t)).2 2147483647))) with
        | false => rw [hcd] at h; exact plain h
        | true =>
          rw [hcd] at h
          dsimp only [cond_true] at h
          simp only [Bool.and_eq_true, q_ile_ok] at hcd
          obtain ⟨⟨c1, c2⟩, ⟨c3, c4⟩, c5, c6⟩ := hcd
          have ex : (Int32.ofInt x).toInt = x := q_ofr (by omega) (by omega)
          have ey : (Int32.ofInt y).toInt = y := q_ofr (by omega) (by omega)
          obtain ⟨ρ1, e1, z, p1, p2, p3, p4⟩ := v_bin3_ok he (op := 2) (by decide) (x := Int32.ofInt x) (y := Int32.ofInt y) (by rw [ex]; exact ha) (by rw [ey]; exact hb) h
          have ez : (q_F 2 (Int32.ofInt x) (Int32.ofInt y)).toInt = x - y := by
            show (Int32.ofInt x - Int32.ofInt y).toInt = _
            rw [← Int32.ofInt_sub]
            exact q_ofr (by omega) (by omega)
          rw [ez] at p3
          rcases v_ltz_ok p2 (q_r_px p1 ha) (q_r_px p1 hb) p3 p4 with ⟨g1, g2, g3, g4⟩ | ⟨g1, g2, g3, g4⟩
          · exact Or.inl ⟨g1, ρ1, g2, p1, g3, g4⟩
          · exact Or.inr ⟨g1, ρ1, g2, p1, g3, g4⟩
      · rw [Bool.and_eq_true] at h
        by_cases hc : x < y
        · exact Or.inl ⟨hc, ρ, env, q_px_rf ρ, he, h.1⟩
        · exact Or.inr ⟨by omega, ρ, env, q_px_rf ρ, he, h.2⟩
end Prt19
