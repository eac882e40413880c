set_option maxRecDepth 100000 in
theorem tkX12_escaped_4 : ttX12_escaped_4.all (g_cE 12 false cX12_escaped) = true := by decide +kernel
set_option maxRecDepth 100000 in
theorem tkX12_escaped_5 : ttX12_escaped_5.all (g_cE 12 false cX12_escaped) = true := by decide +kernel
set_option maxRecDepth 100000 in
theorem tkX12_escaped_6 : ttX12_escaped_6.all (g_cE 12 false cX12_escaped) = true := by decide +kernel
set_option maxRecDepth 100000 in
theorem tkX12_escaped_7 : ttX12_escaped_7.all (g_cE 12 false cX12_escaped) = true := by decide +kernel
set_option maxRecDepth 100000 in
theorem tkX12_escaped_8 : ttX12_escaped_8.all (g_cE 12 false cX12_escaped) = true := by decide +kernel
set_option maxRecDepth 100000 in
theorem tkX12_escaped_9 : ttX12_escaped_9.all (g_cE 12 false cX12_escaped) = true := by decide +kernel
set_option maxRecDepth 100000 in
theorem tkX12_escaped_10 : ttX12_escaped_10.all (g_cE 12 false cX12_escaped) = true := by decide +kernel
set_option maxRecDepth 100000 in
theorem tkX12_escaped_11 : ttX12_escaped_11.all (g_cE 12 false cX12_escaped) = true := by decide +kernel
set_option maxRecDepth 100000 in
theorem tkX12_escaped_12 : ttX12_escaped_12.all (g_cE 12 false cX12_escaped) = true := by decide +kernel
set_option maxRecDepth 100000 in
theorem tkX12_escaped_13 : ttX12_escaped_13.all (g_cE 12 false cX12_escaped) = true := by decide +kernel
set_option maxRecDepth 100000 in
theorem tkX12_escaped_14 : ttX12_escaped_14.all (g_cE 12 false cX12_escaped) = true := by decide +kernel
set_option maxRecDepth 100000 in
theorem tkX12_escaped_15 : ttX12_escaped_15.all (g_cE 12 false cX12_escaped) = true := by decide +kernel
set_option maxRecDepth 100000 in
theorem tkX12_escaped_16 : ttX12_escaped_16.all (g_cE 12 false cX12_escaped) = true := by decide +kernel
theorem tkX12_escaped : ttX12_escaped.all (fun r => r.2.all (g_cE 12 false cX12_escaped)) = true := by
  unfold ttX12_escaped
  simp only [List.all_cons, List.all_nil, Bool.and_true, Bool.and_eq_true]
  exact ⟨tkX12_escaped_0, tkX12_escaped_1, tkX12_escaped_2, tkX12_escaped_3, tkX12_escaped_4, tkX12_escaped_5, tkX12_escaped_6, tkX12_escaped_7, tkX12_escaped_8, tkX12_escaped_9, tkX12_escaped_10, tkX12_escaped_11, tkX12_escaped_12, tkX12_escaped_13, tkX12_escaped_14, tkX12_escaped_15, tkX12_escaped_16⟩
set_option maxRecDepth 100000 in
theorem tkX12_isOrder : ttX12_isOrder.all (fun r => r.2.all (g_cE 12 false cX12_isOrder)) = true := by decide +kernel
set_option maxRecDepth 100000 in
theorem tkX12_toldNurses : ttX12_toldNurses.all (fun r => r.2.all (g_cE 12 false cX12_toldNurses)) = true := by decide +kernel
set_option maxRecDepth 100000 in
theorem tkX12_nursed_0 : ttX12_nursed_0.all (g_cE 12 false cX12_nursed) = true := by decide +kernel
set_option maxRecDepth 100000 in
theorem tkX12_nursed_1 : ttX12_nursed_1.all (g_cE 12 false cX12_nursed) = true := by decide +kernel
set_option maxRecDepth 100000 in
theorem tkX12_nursed_2 : ttX12_nursed_2.all (g_cE 12 false cX12_nursed) = true := by decide +kernel
set_option maxRecDepth 100000 in
theorem tkX12_nursed_3 : ttX12_nursed_3.all (g_cE 12 false cX12_nursed) = true := by decide +kernel
set_option maxRecDepth 100000 in
theorem tkX12_nursed_4 : ttX12_nursed_4.all (g_cE 12 false cX12_nursed) = true := by decide +kernel
set_option maxRecDepth 100000 in
theorem tkX12_nursed_5 : ttX12_nursed_5.all (g_cE 12 false cX12_nursed) = true := by decide +kernel
set_option maxRecDepth 100000 in
theorem tkX12_nursed_6 : ttX12_nursed_6.all (g_cE 12 false cX12_nursed) = true := by decide +kernel
set_option maxRecDepth 100000 in
theorem tkX12_nursed_7 : ttX12_nursed_7.all (g_cE 12 false cX12_nursed) = true := by decide +kernel
set_option maxRecDepth 100000 in
theorem tkX12_nursed_8 : ttX12_nursed_8.all (g_cE 12 false cX12_nursed) = true := by decide +kernel
set_option maxRecDepth 100000 in
theorem tkX12_nursed_9 : ttX12_nursed_9.all (g_cE 12 false cX12_nursed) = true := by decide +kernel
theorem tkX12_nursed : ttX12_nursed.all (fun r => r.2.all (g_cE 12 false cX12_nursed)) = true := by
  unfold ttX12_nursed
  simp only [List.all_cons, List.all_nil, Bool.and_true, Bool.and_eq_true]
  exact ⟨tkX12_nursed_0, tkX12_nursed_1, tkX12_nursed_2, tkX12_nursed_3, tkX12_nursed_4, tkX12_nursed_5, tkX12_nursed_6, tkX12_nursed_7, tkX12_nursed_8, tkX12_nursed_9⟩
set_option maxRecDepth 100000 in
theorem tkX12_laysRing_0 : ttX12_laysRing_0.all (g_cE 12 false cX12_laysRing) = true := by decide +kernel
set_option maxRecDepth 100000 in
theorem tkX12_laysRing_1 : ttX12_laysRing_1.all (g_cE 12 false cX12_laysRing) = true := by decide +kernel
set_option maxRecDepth 100000 in
theorem tkX12_laysRing_2 : ttX12_laysRing_2.all (g_cE 12 false cX12_laysRing) = true := by decide +kernel
set_option maxRecDepth 100000 in
theorem tkX12_laysRing_3 : ttX12_laysRing_3.all (g_cE 12 false cX12_laysRing) = true := by decide +kernel
set_option maxRecDepth 100000 in
theorem tkX12_laysRing_4 : ttX12_laysRing_4.all (g_cE 12 false cX12_laysRing) = true := by decide +kernel
set_option maxRecDepth 100000 in
theorem tkX12_laysRing_5 : ttX12_laysRing_5.all (g_cE 12 false cX12_laysRing) = true := by decide +kernel
set_option maxRecDepth 100000 in
theorem tkX12_laysRing_6 : ttX12_laysRing_6.all (g_cE 12 false cX12_laysRing) = true := by decide +kernel
set_option maxRecDepth 100000 in
theorem tkX12_laysRing_7 : ttX12_laysRing_7.all (g_cE 12 false cX12_laysRing) = true := by decide +kernel
set_option maxRecDepth 100000 in
theorem tkX12_laysRing_8 : ttX12_laysRing_8.all (g_cE 12 false cX12_laysRing) = true := by decide +kernel
set_option maxRecDepth 100000 in
theorem tkX12_laysRing_9 : ttX12_laysRing_9.all (g_cE 12 false cX12_laysRing) = true := by decide +kernel
set_option maxRecDepth 100000 in
theorem tkX12_laysRing_10 : ttX12_laysRing_10.all (g_cE 12 false cX12_laysRing) = true := by decide +kernel
theorem tkX12_laysRing : ttX12_laysRing.all (fun r => r.2.all (g_cE 12 false cX12_laysRing)) = true := by
  unfold ttX12_laysRing
  simp only [List.all_cons, List.all_nil, Bool.and_true, Bool.and_eq_true]
  exact ⟨tkX12_laysRing_0, tkX12_laysRing_1, tkX12_laysRing_2, tkX12_laysRing_3, tkX12_laysRing_4, tkX12_laysRing_5, tkX12_laysRing_6, tkX12_laysRing_7, tkX12_laysRing_8, tkX12_laysRing_9, tkX12_laysRing_10⟩
set_option maxRecDepth 100000 in
theorem tkX12_round : ttX12_round.all (fun r => r.2.all (g_cE 12 false cX12_round)) = true := by decide +kernel
