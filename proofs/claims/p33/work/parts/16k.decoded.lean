set_option maxRecDepth 100000 in
theorem tkX12_feeds : ttX12_feeds.all (fun r => r.2.all (g_cE 12 false cX12_feeds)) = true := by decide +kernel
set_option maxRecDepth 100000 in
theorem tkX12_teaches : ttX12_teaches.all (fun r => r.2.all (g_cE 12 false cX12_teaches)) = true := by decide +kernel
set_option maxRecDepth 100000 in
theorem tkX12_wardsGo : ttX12_wardsGo.all (fun r => r.2.all (g_cE 12 false cX12_wardsGo)) = true := by decide +kernel
set_option maxRecDepth 100000 in
theorem tkX12_breaks : ttX12_breaks.all (fun r => r.2.all (g_cE 12 false cX12_breaks)) = true := by decide +kernel
set_option maxRecDepth 100000 in
theorem tkX12_whistle : ttX12_whistle.all (fun r => r.2.all (g_cE 12 false cX12_whistle)) = true := by decide +kernel
set_option maxRecDepth 100000 in
theorem tkX12_nursesGo : ttX12_nursesGo.all (fun r => r.2.all (g_cE 12 false cX12_nursesGo)) = true := by decide +kernel
set_option maxRecDepth 100000 in
theorem tkX12_judges : ttX12_judges.all (fun r => r.2.all (g_cE 12 false cX12_judges)) = true := by decide +kernel
set_option maxRecDepth 100000 in
theorem tkX12_go : ttX12_go.all (fun r => r.2.all (g_cE 12 false cX12_go)) = true := by decide +kernel
set_option maxRecDepth 100000 in
theorem tkX12_months : ttX12_months.all (fun r => r.2.all (g_cE 12 false cX12_months)) = true := by decide +kernel
set_option maxRecDepth 100000 in
theorem tkX12_laysAside_0 : ttX12_laysAside_0.all (g_cE 12 false cX12_laysAside) = true := by decide +kernel
set_option maxRecDepth 100000 in
theorem tkX12_laysAside_1 : ttX12_laysAside_1.all (g_cE 12 false cX12_laysAside) = true := by decide +kernel
set_option maxRecDepth 100000 in
theorem tkX12_laysAside_2 : ttX12_laysAside_2.all (g_cE 12 false cX12_laysAside) = true := by decide +kernel
set_option maxRecDepth 100000 in
theorem tkX12_laysAside_3 : ttX12_laysAside_3.all (g_cE 12 false cX12_laysAside) = true := by decide +kernel
set_option maxRecDepth 100000 in
theorem tkX12_laysAside_4 : ttX12_laysAside_4.all (g_cE 12 false cX12_laysAside) = true := by decide +kernel
set_option maxRecDepth 100000 in
theorem tkX12_laysAside_5 : ttX12_laysAside_5.all (g_cE 12 false cX12_laysAside) = true := by decide +kernel
set_option maxRecDepth 100000 in
theorem tkX12_laysAside_6 : ttX12_laysAside_6.all (g_cE 12 false cX12_laysAside) = true := by decide +kernel
set_option maxRecDepth 100000 in
theorem tkX12_laysAside_7 : ttX12_laysAside_7.all (g_cE 12 false cX12_laysAside) = true := by decide +kernel
set_option maxRecDepth 100000 in
theorem tkX12_laysAside_8 : ttX12_laysAside_8.all (g_cE 12 false cX12_laysAside) = true := by decide +kernel
set_option maxRecDepth 100000 in
theorem tkX12_laysAside_9 : ttX12_laysAside_9.all (g_cE 12 false cX12_laysAside) = true := by decide +kernel
set_option maxRecDepth 100000 in
theorem tkX12_laysAside_10 : ttX12_laysAside_10.all (g_cE 12 false cX12_laysAside) = true := by decide +kernel
set_option maxRecDepth 100000 in
theorem tkX12_laysAside_11 : ttX12_laysAside_11.all (g_cE 12 false cX12_laysAside) = true := by decide +kernel
set_option maxRecDepth 100000 in
theorem tkX12_laysAside_12 : ttX12_laysAside_12.all (g_cE 12 false cX12_laysAside) = true := by decide +kernel
theorem tkX12_laysAside : ttX12_laysAside.all (fun r => r.2.all (g_cE 12 false cX12_laysAside)) = true := by
  unfold ttX12_laysAside
  simp only [List.all_cons, List.all_nil, Bool.and_true, Bool.and_eq_true]
  exact ⟨tkX12_laysAside_0, tkX12_laysAside_1, tkX12_laysAside_2, tkX12_laysAside_3, tkX12_laysAside_4, tkX12_laysAside_5, tkX12_laysAside_6, tkX12_laysAside_7, tkX12_laysAside_8, tkX12_laysAside_9, tkX12_laysAside_10, tkX12_laysAside_11, tkX12_laysAside_12⟩
set_option maxRecDepth 100000 in
theorem tkX12_bringsBack_0 : ttX12_bringsBack_0.all (g_cE 12 false cX12_bringsBack) = true := by decide +kernel
set_option maxRecDepth 100000 in
theorem tkX12_bringsBack_1 : ttX12_bringsBack_1.all (g_cE 12 false cX12_bringsBack) = true := by decide +kernel
set_option maxRecDepth 100000 in
theorem tkX12_bringsBack_2 : ttX12_bringsBack_2.all (g_cE 12 false cX12_bringsBack) = true := by decide +kernel
set_option maxRecDepth 100000 in
theorem tkX12_bringsBack_3 : ttX12_bringsBack_3.all (g_cE 12 false cX12_bringsBack) = true := by decide +kernel
set_option maxRecDepth 100000 in
theorem tkX12_bringsBack_4 : ttX12_bringsBack_4.all (g_cE 12 false cX12_bringsBack) = true := by decide +kernel
set_option maxRecDepth 100000 in
theorem tkX12_bringsBack_5 : ttX12_bringsBack_5.all (g_cE 12 false cX12_bringsBack) = true := by decide +kernel
set_option maxRecDepth 100000 in
theorem tkX12_bringsBack_6 : ttX12_bringsBack_6.all (g_cE 12 false cX12_bringsBack) = true := by decide +kernel
set_option maxRecDepth 100000 in
theorem tkX12_bringsBack_7 : ttX12_bringsBack_7.all (g_cE 12 false cX12_bringsBack) = true := by decide +kernel
set_option maxRecDepth 100000 in
theorem tkX12_bringsBack_8 : ttX12_bringsBack_8.all (g_cE 12 false cX12_bringsBack) = true := by decide +kernel
set_option maxRecDepth 100000 in
theorem tkX12_bringsBack_9 : ttX12_bringsBack_9.all (g_cE 12 false cX12_bringsBack) = true := by decide +kernel
set_option maxRecDepth 100000 in
theorem tkX12_bringsBack_10 : ttX12_bringsBack_10.all (g_cE 12 false cX12_bringsBack) = true := by decide +kernel
set_option maxRecDepth 100000 in
theorem tkX12_bringsBack_11 : ttX12_bringsBack_11.all (g_cE 12 false cX12_bringsBack) = true := by decide +kernel
set_option maxRecDepth 100000 in
theorem tkX12_bringsBack_12 : ttX12_bringsBack_12.all (g_cE 12 false cX12_bringsBack) = true := by decide +kernel
set_option maxRecDepth 100000 in
theorem tkX12_bringsBack_13 : ttX12_bringsBack_13.all (g_cE 12 false cX12_bringsBack) = true := by decide +kernel
set_option maxRecDepth 100000 in
theorem tkX12_bringsBack_14 : ttX12_bringsBack_14.all (g_cE 12 false cX12_bringsBack) = true := by decide +kernel
theorem tkX12_bringsBack : ttX12_bringsBack.all (fun r => r.2.all (g_cE 12 false cX12_bringsBack)) = true := by
  unfold ttX12_bringsBack
  simp only [List.all_cons, List.all_nil, Bool.and_true, Bool.and_eq_true]
  exact ⟨tkX12_bringsBack_0, tkX12_bringsBack_1, tkX12_bringsBack_2, tkX12_bringsBack_3, tkX12_bringsBack_4, tkX12_bringsBack_5, tkX12_bringsBack_6, tkX12_bringsBack_7, tkX12_bringsBack_8, tkX12_bringsBack_9, tkX12_bringsBack_10, tkX12_bringsBack_11, tkX12_bringsBack_12, tkX12_bringsBack_13, tkX12_bringsBack_14⟩
set_option maxRecDepth 100000 in
theorem tkX12_tried : ttX12_tried.all (fun r => r.2.all (g_cE 12 false cX12_tried)) = true := by decide +kernel
