set_option maxRecDepth 100000 in
theorem tkX1_run_13 : ttX1_run_13.all (g_cE 1 false cX1_run) = true := by decide +kernel
set_option maxRecDepth 100000 in
theorem tkX1_run_14 : ttX1_run_14.all (g_cE 1 false cX1_run) = true := by decide +kernel
theorem tkX1_run : ttX1_run.all (fun r => r.2.all (g_cE 1 false cX1_run)) = true := by
  unfold ttX1_run
  simp only [List.all_cons, List.all_nil, Bool.and_true, Bool.and_eq_true]
  exact ⟨tkX1_run_0, tkX1_run_1, tkX1_run_2, tkX1_run_3, tkX1_run_4, tkX1_run_5, tkX1_run_6, tkX1_run_7, tkX1_run_8, tkX1_run_9, tkX1_run_10, tkX1_run_11, tkX1_run_12, tkX1_run_13, tkX1_run_14⟩
set_option maxRecDepth 100000 in
theorem tkX1_valueAt : ttX1_valueAt.all (fun r => r.2.all (g_cE 1 false cX1_valueAt)) = true := by decide +kernel
set_option maxRecDepth 100000 in
theorem tkX1_join : ttX1_join.all (fun r => r.2.all (g_cE 1 false cX1_join)) = true := by decide +kernel
set_option maxRecDepth 100000 in
theorem tkX2_init : ttX2_init.all (fun r => r.2.all (g_cE 2 true cX2_init)) = true := by decide +kernel
set_option maxRecDepth 100000 in
theorem tkX2_keeperOf : ttX2_keeperOf.all (fun r => r.2.all (g_cE 2 false cX2_keeperOf)) = true := by decide +kernel
set_option maxRecDepth 100000 in
theorem tkX2_readRow : ttX2_readRow.all (fun r => r.2.all (g_cE 2 false cX2_readRow)) = true := by decide +kernel
set_option maxRecDepth 100000 in
theorem tkX2_envious : ttX2_envious.all (fun r => r.2.all (g_cE 2 false cX2_envious)) = true := by decide +kernel
set_option maxRecDepth 100000 in
theorem tkX2_highest : ttX2_highest.all (fun r => r.2.all (g_cE 2 false cX2_highest)) = true := by decide +kernel
set_option maxRecDepth 100000 in
theorem tkX2_dearest : ttX2_dearest.all (fun r => r.2.all (g_cE 2 false cX2_dearest)) = true := by decide +kernel
set_option maxRecDepth 100000 in
theorem tkX2_higher : ttX2_higher.all (fun r => r.2.all (g_cE 2 false cX2_higher)) = true := by decide +kernel
set_option maxRecDepth 100000 in
theorem tkX2_dearer : ttX2_dearer.all (fun r => r.2.all (g_cE 2 false cX2_dearer)) = true := by decide +kernel
set_option maxRecDepth 100000 in
theorem tkX3_init : ttX3_init.all (fun r => r.2.all (g_cE 3 true cX3_init)) = true := by decide +kernel
set_option maxRecDepth 100000 in
theorem tkX3_exchangeLaw : ttX3_exchangeLaw.all (fun r => r.2.all (g_cE 3 false cX3_exchangeLaw)) = true := by decide +kernel
set_option maxRecDepth 100000 in
theorem tkX3_exchangeRules : ttX3_exchangeRules.all (fun r => r.2.all (g_cE 3 false cX3_exchangeRules)) = true := by decide +kernel
set_option maxRecDepth 100000 in
theorem tkX3_clauses : ttX3_clauses.all (fun r => r.2.all (g_cE 3 false cX3_clauses)) = true := by decide +kernel
set_option maxRecDepth 100000 in
theorem tkX3_ruleCount : ttX3_ruleCount.all (fun r => r.2.all (g_cE 3 false cX3_ruleCount)) = true := by decide +kernel
set_option maxRecDepth 100000 in
theorem tkX3_ofGust : ttX3_ofGust.all (fun r => r.2.all (g_cE 3 false cX3_ofGust)) = true := by decide +kernel
set_option maxRecDepth 100000 in
theorem tkX3_learns : ttX3_learns.all (fun r => r.2.all (g_cE 3 false cX3_learns)) = true := by decide +kernel
set_option maxRecDepth 100000 in
theorem tkX3_atOdds : ttX3_atOdds.all (fun r => r.2.all (g_cE 3 false cX3_atOdds)) = true := by decide +kernel
set_option maxRecDepth 100000 in
theorem tkX3_illness : ttX3_illness.all (fun r => r.2.all (g_cE 3 false cX3_illness)) = true := by decide +kernel
set_option maxRecDepth 100000 in
theorem tkX3_firstBroken : ttX3_firstBroken.all (fun r => r.2.all (g_cE 3 false cX3_firstBroken)) = true := by decide +kernel
set_option maxRecDepth 100000 in
theorem tkX3_lookAtGust : ttX3_lookAtGust.all (fun r => r.2.all (g_cE 3 false cX3_lookAtGust)) = true := by decide +kernel
set_option maxRecDepth 100000 in
theorem tkX3_lookAtTwo : ttX3_lookAtTwo.all (fun r => r.2.all (g_cE 3 false cX3_lookAtTwo)) = true := by decide +kernel
set_option maxRecDepth 100000 in
theorem tkX3_lookAtWard : ttX3_lookAtWard.all (fun r => r.2.all (g_cE 3 false cX3_lookAtWard)) = true := by decide +kernel
set_option maxRecDepth 100000 in
theorem tkX3_firstAmount : ttX3_firstAmount.all (fun r => r.2.all (g_cE 3 false cX3_firstAmount)) = true := by decide +kernel
set_option maxRecDepth 100000 in
theorem tkX3_anyHolds : ttX3_anyHolds.all (fun r => r.2.all (g_cE 3 false cX3_anyHolds)) = true := by decide +kernel
set_option maxRecDepth 100000 in
theorem tkX4_init : ttX4_init.all (fun r => r.2.all (g_cE 4 true cX4_init)) = true := by decide +kernel
set_option maxRecDepth 100000 in
theorem tkX4_lodge : ttX4_lodge.all (fun r => r.2.all (g_cE 4 false cX4_lodge)) = true := by decide +kernel
set_option maxRecDepth 100000 in
theorem tkX4_staff : ttX4_staff.all (fun r => r.2.all (g_cE 4 false cX4_staff)) = true := by decide +kernel
set_option maxRecDepth 100000 in
theorem tkX4_chosenFor : ttX4_chosenFor.all (fun r => r.2.all (g_cE 4 false cX4_chosenFor)) = true := by decide +kernel
set_option maxRecDepth 100000 in
theorem tkX4_ring : ttX4_ring.all (fun r => r.2.all (g_cE 4 false cX4_ring)) = true := by decide +kernel
set_option maxRecDepth 100000 in
theorem tkX4_ringAt : ttX4_ringAt.all (fun r => r.2.all (g_cE 4 false cX4_ringAt)) = true := by decide +kernel
set_option maxRecDepth 100000 in
theorem tkX4_spread : ttX4_spread.all (fun r => r.2.all (g_cE 4 false cX4_spread)) = true := by decide +kernel
set_option maxRecDepth 100000 in
theorem tkX4_learnOdds : ttX4_learnOdds.all (fun r => r.2.all (g_cE 4 false cX4_learnOdds)) = true := by decide +kernel
set_option maxRecDepth 100000 in
theorem tkX4_lodgeFrom : ttX4_lodgeFrom.all (fun r => r.2.all (g_cE 4 false cX4_lodgeFrom)) = true := by decide +kernel
set_option maxRecDepth 100000 in
theorem tkX4_staffFrom : ttX4_staffFrom.all (fun r => r.2.all (g_cE 4 false cX4_staffFrom)) = true := by decide +kernel
set_option maxRecDepth 100000 in
theorem tkX4_keepRow : ttX4_keepRow.all (fun r => r.2.all (g_cE 4 false cX4_keepRow)) = true := by decide +kernel
set_option maxRecDepth 100000 in
theorem tkX4_waysOn : ttX4_waysOn.all (fun r => r.2.all (g_cE 4 false cX4_waysOn)) = true := by decide +kernel
