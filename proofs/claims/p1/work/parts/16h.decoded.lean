set_option maxRecDepth 100000 in
theorem tkX12_fair_9 : ttX12_fair_9.all (g_cE 12 false cX12_fair) = true := by decide +kernel
set_option maxRecDepth 100000 in
theorem tkX12_fair_10 : ttX12_fair_10.all (g_cE 12 false cX12_fair) = true := by decide +kernel
theorem tkX12_fair : ttX12_fair.all (fun r => r.2.all (g_cE 12 false cX12_fair)) = true := by
  unfold ttX12_fair
  simp only [List.all_cons, List.all_nil, Bool.and_true, Bool.and_eq_true]
  exact ⟨tkX12_fair_0, tkX12_fair_1, tkX12_fair_2, tkX12_fair_3, tkX12_fair_4, tkX12_fair_5, tkX12_fair_6, tkX12_fair_7, tkX12_fair_8, tkX12_fair_9, tkX12_fair_10⟩
set_option maxRecDepth 100000 in
theorem tkX12_escaped_0 : ttX12_escaped_0.all (g_cE 12 false cX12_escaped) = true := by decide +kernel
set_option maxRecDepth 100000 in
theorem tkX12_escaped_1 : ttX12_escaped_1.all (g_cE 12 false cX12_escaped) = true := by decide +kernel
set_option maxRecDepth 100000 in
theorem tkX12_escaped_2 : ttX12_escaped_2.all (g_cE 12 false cX12_escaped) = true := by decide +kernel
set_option maxRecDepth 100000 in
theorem tkX12_escaped_3 : ttX12_escaped_3.all (g_cE 12 false cX12_escaped) = true := by decide +kernel
set_option maxRecDepth 100000 in
theorem tkX12_escaped_4 : ttX12_escaped_4.all (g_cE 12 false cX12_escaped) = true := by decide +kernel
set_option maxRecDepth 100000 in
theorem tkX12_escaped_5 : ttX12_escaped_5.all (g_cE 12 false cX12_escaped) = true := by decide +kernel
set_option maxRecDepth 100000 in
theorem tkX12_escaped_6 : ttX12_escaped_6.all (g_cE 12 false cX12_escaped) = true := by decide +kernel
set_option maxRecDepth 100000 in
theorem tkX12_escaped_7 : ttX12_escaped_7.all (g_cE 12 false cX12_escaped) = true := by decide +kernel
set_option maxRecDepth 100000 in
theorem tkX12_escaped_8 : ttX12_escaped_8.all (g_cE 12 false cX12_escaped) = true := by decide +kernel
set_option maxRecDepth 100000 in
theorem tkX12_escaped_9 : ttX12_escaped_9.all (g_cE 12 false cX12_escaped) = true := by decide +kernel
set_option maxRecDepth 100000 in
theorem tkX12_escaped_10 : ttX12_escaped_10.all (g_cE 12 false cX12_escaped) = true := by decide +kernel
set_option maxRecDepth 100000 in
theorem tkX12_escaped_11 : ttX12_escaped_11.all (g_cE 12 false cX12_escaped) = true := by decide +kernel
set_option maxRecDepth 100000 in
theorem tkX12_escaped_12 : ttX12_escaped_12.all (g_cE 12 false cX12_escaped) = true := by decide +kernel
set_option maxRecDepth 100000 in
theorem tkX12_escaped_13 : ttX12_escaped_13.all (g_cE 12 false cX12_escaped) = true := by decide +kernel
set_option maxRecDepth 100000 in
theorem tkX12_escaped_14 : ttX12_escaped_14.all (g_cE 12 false cX12_escaped) = true := by decide +kernel
set_option maxRecDepth 100000 in
theorem tkX12_escaped_15 : ttX12_escaped_15.all (g_cE 12 false cX12_escaped) = true := by decide +kernel
set_option maxRecDepth 100000 in
theorem tkX12_escaped_16 : ttX12_escaped_16.all (g_cE 12 false cX12_escaped) = true := by decide +kernel
theorem tkX12_escaped : ttX12_escaped.all (fun r => r.2.all (g_cE 12 false cX12_escaped)) = true := by
  unfold ttX12_escaped
  simp only [List.all_cons, List.all_nil, Bool.and_true, Bool.and_eq_true]
  exact ⟨tkX12_escaped_0, tkX12_escaped_1, tkX12_escaped_2, tkX12_escaped_3, tkX12_escaped_4, tkX12_escaped_5, tkX12_escaped_6, tkX12_escaped_7, tkX12_escaped_8, tkX12_escaped_9, tkX12_escaped_10, tkX12_escaped_11, tkX12_escaped_12, tkX12_escaped_13, tkX12_escaped_14, tkX12_escaped_15, tkX12_escaped_16⟩
set_option maxRecDepth 100000 in
theorem tkX12_toldNurses : ttX12_toldNurses.all (fun r => r.2.all (g_cE 12 false cX12_toldNurses)) = true := by decide +kernel
set_option maxRecDepth 100000 in
theorem tkX12_nursed_0 : ttX12_nursed_0.all (g_cE 12 false cX12_nursed) = true := by decide +kernel
set_option maxRecDepth 100000 in
theorem tkX12_nursed_1 : ttX12_nursed_1.all (g_cE 12 false cX12_nursed) = true := by decide +kernel
set_option maxRecDepth 100000 in
theorem tkX12_nursed_2 : ttX12_nursed_2.all (g_cE 12 false cX12_nursed) = true := by decide +kernel
set_option maxRecDepth 100000 in
theorem tkX12_nursed_3 : ttX12_nursed_3.all (g_cE 12 false cX12_nursed) = true := by decide +kernel
set_option maxRecDepth 100000 in
theorem tkX12_nursed_4 : ttX12_nursed_4.all (g_cE 12 false cX12_nursed) = true := by decide +kernel
set_option maxRecDepth 100000 in
theorem tkX12_nursed_5 : ttX12_nursed_5.all (g_cE 12 false cX12_nursed) = true := by decide +kernel
set_option maxRecDepth 100000 in
theorem tkX12_nursed_6 : ttX12_nursed_6.all (g_cE 12 false cX12_nursed) = true := by decide +kernel
set_option maxRecDepth 100000 in
theorem tkX12_nursed_7 : ttX12_nursed_7.all (g_cE 12 false cX12_nursed) = true := by decide +kernel
set_option maxRecDepth 100000 in
theorem tkX12_nursed_8 : ttX12_nursed_8.all (g_cE 12 false cX12_nursed) = true := by decide +kernel
set_option maxRecDepth 100000 in
theorem tkX12_nursed_9 : ttX12_nursed_9.all (g_cE 12 false cX12_nursed) = true := by decide +kernel
theorem tkX12_nursed : ttX12_nursed.all (fun r => r.2.all (g_cE 12 false cX12_nursed)) = true := by
  unfold ttX12_nursed
  simp only [List.all_cons, List.all_nil, Bool.and_true, Bool.and_eq_true]
  exact ⟨tkX12_nursed_0, tkX12_nursed_1, tkX12_nursed_2, tkX12_nursed_3, tkX12_nursed_4, tkX12_nursed_5, tkX12_nursed_6, tkX12_nursed_7, tkX12_nursed_8, tkX12_nursed_9⟩
set_option maxRecDepth 100000 in
theorem tkX12_round : ttX12_round.all (fun r => r.2.all (g_cE 12 false cX12_round)) = true := by decide +kernel
set_option maxRecDepth 100000 in
theorem tkX12_added : ttX12_added.all (fun r => r.2.all (g_cE 12 false cX12_added)) = true := by decide +kernel
set_option maxRecDepth 100000 in
theorem tkX12_seed : ttX12_seed.all (fun r => r.2.all (g_cE 12 false cX12_seed)) = true := by decide +kernel
set_option maxRecDepth 100000 in
theorem tkX12_keep : ttX12_keep.all (fun r => r.2.all (g_cE 12 false cX12_keep)) = true := by decide +kernel
set_option maxRecDepth 100000 in
theorem tkX12_undo : ttX12_undo.all (fun r => r.2.all (g_cE 12 false cX12_undo)) = true := by decide +kernel
set_option maxRecDepth 100000 in
theorem tkX12_check : ttX12_check.all (fun r => r.2.all (g_cE 12 false cX12_check)) = true := by decide +kernel
set_option maxRecDepth 100000 in
theorem tkX12_toldOf : ttX12_toldOf.all (fun r => r.2.all (g_cE 12 false cX12_toldOf)) = true := by decide +kernel
