set_option maxRecDepth 100000 in
theorem tkX12_isPlus : ttX12_isPlus.all (fun r => r.2.all (g_cE 12 false cX12_isPlus)) = true := by decide +kernel
set_option maxRecDepth 100000 in
theorem tkX12_isCompared : ttX12_isCompared.all (fun r => r.2.all (g_cE 12 false cX12_isCompared)) = true := by decide +kernel
set_option maxRecDepth 100000 in
theorem tkX12_isValue : ttX12_isValue.all (fun r => r.2.all (g_cE 12 false cX12_isValue)) = true := by decide +kernel
set_option maxRecDepth 100000 in
theorem tkX12_sums : ttX12_sums.all (fun r => r.2.all (g_cE 12 false cX12_sums)) = true := by decide +kernel
set_option maxRecDepth 100000 in
theorem tkX12_joins : ttX12_joins.all (fun r => r.2.all (g_cE 12 false cX12_joins)) = true := by decide +kernel
set_option maxRecDepth 100000 in
theorem tkX12_ends : ttX12_ends.all (fun r => r.2.all (g_cE 12 false cX12_ends)) = true := by decide +kernel
set_option maxRecDepth 100000 in
theorem tkX12_factor : ttX12_factor.all (fun r => r.2.all (g_cE 12 false cX12_factor)) = true := by decide +kernel
set_option maxRecDepth 100000 in
theorem tkX12_stays : ttX12_stays.all (fun r => r.2.all (g_cE 12 false cX12_stays)) = true := by decide +kernel
set_option maxRecDepth 100000 in
theorem tkX12_value : ttX12_value.all (fun r => r.2.all (g_cE 12 false cX12_value)) = true := by decide +kernel
set_option maxRecDepth 100000 in
theorem tkX12_pieceOfC : ttX12_pieceOfC.all (fun r => r.2.all (g_cE 12 false cX12_pieceOfC)) = true := by decide +kernel
set_option maxRecDepth 100000 in
theorem tkX12_goesBehind : ttX12_goesBehind.all (fun r => r.2.all (g_cE 12 false cX12_goesBehind)) = true := by decide +kernel
set_option maxRecDepth 100000 in
theorem tkX12_condition : ttX12_condition.all (fun r => r.2.all (g_cE 12 false cX12_condition)) = true := by decide +kernel
set_option maxRecDepth 100000 in
theorem tkX12_isClause : ttX12_isClause.all (fun r => r.2.all (g_cE 12 false cX12_isClause)) = true := by decide +kernel
set_option maxRecDepth 100000 in
theorem tkX12_clause : ttX12_clause.all (fun r => r.2.all (g_cE 12 false cX12_clause)) = true := by decide +kernel
set_option maxRecDepth 100000 in
theorem tkX12_takesText_0 : ttX12_takesText_0.all (g_cE 12 false cX12_takesText) = true := by decide +kernel
set_option maxRecDepth 100000 in
theorem tkX12_takesText_1 : ttX12_takesText_1.all (g_cE 12 false cX12_takesText) = true := by decide +kernel
set_option maxRecDepth 100000 in
theorem tkX12_takesText_2 : ttX12_takesText_2.all (g_cE 12 false cX12_takesText) = true := by decide +kernel
set_option maxRecDepth 100000 in
theorem tkX12_takesText_3 : ttX12_takesText_3.all (g_cE 12 false cX12_takesText) = true := by decide +kernel
set_option maxRecDepth 100000 in
theorem tkX12_takesText_4 : ttX12_takesText_4.all (g_cE 12 false cX12_takesText) = true := by decide +kernel
set_option maxRecDepth 100000 in
theorem tkX12_takesText_5 : ttX12_takesText_5.all (g_cE 12 false cX12_takesText) = true := by decide +kernel
set_option maxRecDepth 100000 in
theorem tkX12_takesText_6 : ttX12_takesText_6.all (g_cE 12 false cX12_takesText) = true := by decide +kernel
set_option maxRecDepth 100000 in
theorem tkX12_takesText_7 : ttX12_takesText_7.all (g_cE 12 false cX12_takesText) = true := by decide +kernel
set_option maxRecDepth 100000 in
theorem tkX12_takesText_8 : ttX12_takesText_8.all (g_cE 12 false cX12_takesText) = true := by decide +kernel
set_option maxRecDepth 100000 in
theorem tkX12_takesText_9 : ttX12_takesText_9.all (g_cE 12 false cX12_takesText) = true := by decide +kernel
set_option maxRecDepth 100000 in
theorem tkX12_takesText_10 : ttX12_takesText_10.all (g_cE 12 false cX12_takesText) = true := by decide +kernel
set_option maxRecDepth 100000 in
theorem tkX12_takesText_11 : ttX12_takesText_11.all (g_cE 12 false cX12_takesText) = true := by decide +kernel
set_option maxRecDepth 100000 in
theorem tkX12_takesText_12 : ttX12_takesText_12.all (g_cE 12 false cX12_takesText) = true := by decide +kernel
theorem tkX12_takesText : ttX12_takesText.all (fun r => r.2.all (g_cE 12 false cX12_takesText)) = true := by
  unfold ttX12_takesText
  simp only [List.all_cons, List.all_nil, Bool.and_true, Bool.and_eq_true]
  exact ⟨tkX12_takesText_0, tkX12_takesText_1, tkX12_takesText_2, tkX12_takesText_3, tkX12_takesText_4, tkX12_takesText_5, tkX12_takesText_6, tkX12_takesText_7, tkX12_takesText_8, tkX12_takesText_9, tkX12_takesText_10, tkX12_takesText_11, tkX12_takesText_12⟩
set_option maxRecDepth 100000 in
theorem tkX12_law : ttX12_law.all (fun r => r.2.all (g_cE 12 false cX12_law)) = true := by decide +kernel
set_option maxRecDepth 100000 in
theorem tkX12_rules : ttX12_rules.all (fun r => r.2.all (g_cE 12 false cX12_rules)) = true := by decide +kernel
set_option maxRecDepth 100000 in
theorem tkX12_valueOf : ttX12_valueOf.all (fun r => r.2.all (g_cE 12 false cX12_valueOf)) = true := by decide +kernel
set_option maxRecDepth 100000 in
theorem tkX12_worked : ttX12_worked.all (fun r => r.2.all (g_cE 12 false cX12_worked)) = true := by decide +kernel
set_option maxRecDepth 100000 in
theorem tkX12_does : ttX12_does.all (fun r => r.2.all (g_cE 12 false cX12_does)) = true := by decide +kernel
set_option maxRecDepth 100000 in
theorem tkX12_works : ttX12_works.all (fun r => r.2.all (g_cE 12 false cX12_works)) = true := by decide +kernel
set_option maxRecDepth 100000 in
theorem tkX12_isSo : ttX12_isSo.all (fun r => r.2.all (g_cE 12 false cX12_isSo)) = true := by decide +kernel
set_option maxRecDepth 100000 in
theorem tkX12_tells : ttX12_tells.all (fun r => r.2.all (g_cE 12 false cX12_tells)) = true := by decide +kernel
set_option maxRecDepth 100000 in
theorem tkX12_says : ttX12_says.all (fun r => r.2.all (g_cE 12 false cX12_says)) = true := by decide +kernel
set_option maxRecDepth 100000 in
theorem tkX12_nothingStands : ttX12_nothingStands.all (fun r => r.2.all (g_cE 12 false cX12_nothingStands)) = true := by decide +kernel
set_option maxRecDepth 100000 in
theorem tkX12_gustStands : ttX12_gustStands.all (fun r => r.2.all (g_cE 12 false cX12_gustStands)) = true := by decide +kernel
set_option maxRecDepth 100000 in
theorem tkX12_falling : ttX12_falling.all (fun r => r.2.all (g_cE 12 false cX12_falling)) = true := by decide +kernel
