set_option maxRecDepth 100000 in
theorem tkX4_walkFirst : ttX4_walkFirst.all (fun r => r.2.all (g_cE 4 false cX4_walkFirst)) = true := by decide +kernel
set_option maxRecDepth 100000 in
theorem tkX4_firstOn : ttX4_firstOn.all (fun r => r.2.all (g_cE 4 false cX4_firstOn)) = true := by decide +kernel
set_option maxRecDepth 100000 in
theorem tkX5_init : ttX5_init.all (fun r => r.2.all (g_cE 5 true cX5_init)) = true := by decide +kernel
set_option maxRecDepth 100000 in
theorem tkX5_readText : ttX5_readText.all (fun r => r.2.all (g_cE 5 false cX5_readText)) = true := by decide +kernel
set_option maxRecDepth 100000 in
theorem tkX5_readTimetable : ttX5_readTimetable.all (fun r => r.2.all (g_cE 5 false cX5_readTimetable)) = true := by decide +kernel
set_option maxRecDepth 100000 in
theorem tkX5_begin : ttX5_begin.all (fun r => r.2.all (g_cE 5 false cX5_begin)) = true := by decide +kernel
set_option maxRecDepth 100000 in
theorem tkX5_here : ttX5_here.all (fun r => r.2.all (g_cE 5 false cX5_here)) = true := by decide +kernel
set_option maxRecDepth 100000 in
theorem tkX5_fail : ttX5_fail.all (fun r => r.2.all (g_cE 5 false cX5_fail)) = true := by decide +kernel
set_option maxRecDepth 100000 in
theorem tkX5_expect : ttX5_expect.all (fun r => r.2.all (g_cE 5 false cX5_expect)) = true := by decide +kernel
set_option maxRecDepth 100000 in
theorem tkX5_opens : ttX5_opens.all (fun r => r.2.all (g_cE 5 false cX5_opens)) = true := by decide +kernel
set_option maxRecDepth 100000 in
theorem tkX5_readClause : ttX5_readClause.all (fun r => r.2.all (g_cE 5 false cX5_readClause)) = true := by decide +kernel
set_option maxRecDepth 100000 in
theorem tkX5_readRule : ttX5_readRule.all (fun r => r.2.all (g_cE 5 false cX5_readRule)) = true := by decide +kernel
set_option maxRecDepth 100000 in
theorem tkX5_readWhole : ttX5_readWhole.all (fun r => r.2.all (g_cE 5 false cX5_readWhole)) = true := by decide +kernel
set_option maxRecDepth 100000 in
theorem tkX5_readBracket : ttX5_readBracket.all (fun r => r.2.all (g_cE 5 false cX5_readBracket)) = true := by decide +kernel
set_option maxRecDepth 100000 in
theorem tkX5_readCondition : ttX5_readCondition.all (fun r => r.2.all (g_cE 5 false cX5_readCondition)) = true := by decide +kernel
set_option maxRecDepth 100000 in
theorem tkX5_readPart : ttX5_readPart.all (fun r => r.2.all (g_cE 5 false cX5_readPart)) = true := by decide +kernel
set_option maxRecDepth 100000 in
theorem tkX5_readTest : ttX5_readTest.all (fun r => r.2.all (g_cE 5 false cX5_readTest)) = true := by decide +kernel
set_option maxRecDepth 100000 in
theorem tkX5_readSum : ttX5_readSum.all (fun r => r.2.all (g_cE 5 false cX5_readSum)) = true := by decide +kernel
set_option maxRecDepth 100000 in
theorem tkX5_readTerm : ttX5_readTerm.all (fun r => r.2.all (g_cE 5 false cX5_readTerm)) = true := by decide +kernel
set_option maxRecDepth 100000 in
theorem tkX5_readFactor : ttX5_readFactor.all (fun r => r.2.all (g_cE 5 false cX5_readFactor)) = true := by decide +kernel
set_option maxRecDepth 100000 in
theorem tkX5_readNumber : ttX5_readNumber.all (fun r => r.2.all (g_cE 5 false cX5_readNumber)) = true := by decide +kernel
set_option maxRecDepth 100000 in
theorem tkX5_readMonths : ttX5_readMonths.all (fun r => r.2.all (g_cE 5 false cX5_readMonths)) = true := by decide +kernel
set_option maxRecDepth 100000 in
theorem tkX5_readMonth : ttX5_readMonth.all (fun r => r.2.all (g_cE 5 false cX5_readMonth)) = true := by decide +kernel
set_option maxRecDepth 100000 in
theorem tkX5_readGroup : ttX5_readGroup.all (fun r => r.2.all (g_cE 5 false cX5_readGroup)) = true := by decide +kernel
set_option maxRecDepth 100000 in
theorem tkX5_writeMonth : ttX5_writeMonth.all (fun r => r.2.all (g_cE 5 false cX5_writeMonth)) = true := by decide +kernel
set_option maxRecDepth 100000 in
theorem tkX5_repeat : ttX5_repeat.all (fun r => r.2.all (g_cE 5 false cX5_repeat)) = true := by decide +kernel
set_option maxRecDepth 100000 in
theorem tkX6_init : ttX6_init.all (fun r => r.2.all (g_cE 6 true cX6_init)) = true := by decide +kernel
set_option maxRecDepth 100000 in
theorem tkX6_order : ttX6_order.all (fun r => r.2.all (g_cE 6 false cX6_order)) = true := by decide +kernel
set_option maxRecDepth 100000 in
theorem tkX6_withNeeds : ttX6_withNeeds.all (fun r => r.2.all (g_cE 6 false cX6_withNeeds)) = true := by decide +kernel
set_option maxRecDepth 100000 in
theorem tkX6_lowestReady : ttX6_lowestReady.all (fun r => r.2.all (g_cE 6 false cX6_lowestReady)) = true := by decide +kernel
set_option maxRecDepth 100000 in
theorem tkX7_init : ttX7_init.all (fun r => r.2.all (g_cE 7 true cX7_init)) = true := by decide +kernel
set_option maxRecDepth 100000 in
theorem tkX7_hasGust : ttX7_hasGust.all (fun r => r.2.all (g_cE 7 false cX7_hasGust)) = true := by decide +kernel
set_option maxRecDepth 100000 in
theorem tkX7_hasNurse : ttX7_hasNurse.all (fun r => r.2.all (g_cE 7 false cX7_hasNurse)) = true := by decide +kernel
set_option maxRecDepth 100000 in
theorem tkX7_works : ttX7_works.all (fun r => r.2.all (g_cE 7 false cX7_works)) = true := by decide +kernel
set_option maxRecDepth 100000 in
theorem tkX7_inWard : ttX7_inWard.all (fun r => r.2.all (g_cE 7 false cX7_inWard)) = true := by decide +kernel
set_option maxRecDepth 100000 in
theorem tkX7_draw : ttX7_draw.all (fun r => r.2.all (g_cE 7 false cX7_draw)) = true := by decide +kernel
set_option maxRecDepth 100000 in
theorem tkX7_copy : ttX7_copy.all (fun r => r.2.all (g_cE 7 false cX7_copy)) = true := by decide +kernel
set_option maxRecDepth 100000 in
theorem tkX8_init : ttX8_init.all (fun r => r.2.all (g_cE 8 true cX8_init)) = true := by decide +kernel
set_option maxRecDepth 100000 in
theorem tkX8_takes : ttX8_takes.all (fun r => r.2.all (g_cE 8 false cX8_takes)) = true := by decide +kernel
set_option maxRecDepth 100000 in
theorem tkX8_append : ttX8_append.all (fun r => r.2.all (g_cE 8 false cX8_append)) = true := by decide +kernel
