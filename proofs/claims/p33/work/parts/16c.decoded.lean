set_option maxRecDepth 100000 in
theorem tkL_law_80 : ttL_law_80.all (g_cE 13 false code) = true := by decide +kernel
set_option maxRecDepth 100000 in
theorem tkL_law_81 : ttL_law_81.all (g_cE 13 false code) = true := by decide +kernel
set_option maxRecDepth 100000 in
theorem tkL_law_82 : ttL_law_82.all (g_cE 13 false code) = true := by decide +kernel
set_option maxRecDepth 100000 in
theorem tkL_law_83 : ttL_law_83.all (g_cE 13 false code) = true := by decide +kernel
set_option maxRecDepth 100000 in
theorem tkL_law_84 : ttL_law_84.all (g_cE 13 false code) = true := by decide +kernel
set_option maxRecDepth 100000 in
theorem tkL_law_85 : ttL_law_85.all (g_cE 13 false code) = true := by decide +kernel
set_option maxRecDepth 100000 in
theorem tkL_law_86 : ttL_law_86.all (g_cE 13 false code) = true := by decide +kernel
set_option maxRecDepth 100000 in
theorem tkL_law_87 : ttL_law_87.all (g_cE 13 false code) = true := by decide +kernel
theorem tkL_law : ttL_law.all (fun r => r.2.all (g_cE 13 false code)) = true := by
  unfold ttL_law
  simp only [List.all_cons, List.all_nil, Bool.and_true, Bool.and_eq_true]
  exact ⟨tkL_law_0, tkL_law_1, tkL_law_2, tkL_law_3, tkL_law_4, tkL_law_5, tkL_law_6, tkL_law_7, tkL_law_8, tkL_law_9, tkL_law_10, tkL_law_11, tkL_law_12, tkL_law_13, tkL_law_14, tkL_law_15, tkL_law_16, tkL_law_17, tkL_law_18, tkL_law_19, tkL_law_20, tkL_law_21, tkL_law_22, tkL_law_23, tkL_law_24, tkL_law_25, tkL_law_26, tkL_law_27, tkL_law_28, tkL_law_29, tkL_law_30, tkL_law_31, tkL_law_32, tkL_law_33, tkL_law_34, tkL_law_35, tkL_law_36, tkL_law_37, tkL_law_38, tkL_law_39, tkL_law_40, tkL_law_41, tkL_law_42, tkL_law_43, tkL_law_44, tkL_law_45, tkL_law_46, tkL_law_47, tkL_law_48, tkL_law_49, tkL_law_50, tkL_law_51, tkL_law_52, tkL_law_53, tkL_law_54, tkL_law_55, tkL_law_56, tkL_law_57, tkL_law_58, tkL_law_59, tkL_law_60, tkL_law_61, tkL_law_62, tkL_law_63, tkL_law_64, tkL_law_65, tkL_law_66, tkL_law_67, tkL_law_68, tkL_law_69, tkL_law_70, tkL_law_71, tkL_law_72, tkL_law_73, tkL_law_74, tkL_law_75, tkL_law_76, tkL_law_77, tkL_law_78, tkL_law_79, tkL_law_80, tkL_law_81, tkL_law_82, tkL_law_83, tkL_law_84, tkL_law_85, tkL_law_86, tkL_law_87⟩
set_option maxRecDepth 100000 in
theorem tkX0_init : ttX0_init.all (fun r => r.2.all (g_cE 0 true cX0_init)) = true := by decide +kernel
set_option maxRecDepth 100000 in
theorem tkX0_go : ttX0_go.all (fun r => r.2.all (g_cE 0 false cX0_go)) = true := by decide +kernel
set_option maxRecDepth 100000 in
theorem tkX0_pass : ttX0_pass.all (fun r => r.2.all (g_cE 0 false cX0_pass)) = true := by decide +kernel
set_option maxRecDepth 100000 in
theorem tkX0_weaken : ttX0_weaken.all (fun r => r.2.all (g_cE 0 false cX0_weaken)) = true := by decide +kernel
set_option maxRecDepth 100000 in
theorem tkX0_strengthen : ttX0_strengthen.all (fun r => r.2.all (g_cE 0 false cX0_strengthen)) = true := by decide +kernel
set_option maxRecDepth 100000 in
theorem tkX0_teach : ttX0_teach.all (fun r => r.2.all (g_cE 0 false cX0_teach)) = true := by decide +kernel
set_option maxRecDepth 100000 in
theorem tkX0_breakToys : ttX0_breakToys.all (fun r => r.2.all (g_cE 0 false cX0_breakToys)) = true := by decide +kernel
set_option maxRecDepth 100000 in
theorem tkX0_quarrelAll : ttX0_quarrelAll.all (fun r => r.2.all (g_cE 0 false cX0_quarrelAll)) = true := by decide +kernel
set_option maxRecDepth 100000 in
theorem tkX0_recover : ttX0_recover.all (fun r => r.2.all (g_cE 0 false cX0_recover)) = true := by decide +kernel
set_option maxRecDepth 100000 in
theorem tkX0_sicken : ttX0_sicken.all (fun r => r.2.all (g_cE 0 false cX0_sicken)) = true := by decide +kernel
set_option maxRecDepth 100000 in
theorem tkX0_askRules : ttX0_askRules.all (fun r => r.2.all (g_cE 0 false cX0_askRules)) = true := by decide +kernel
set_option maxRecDepth 100000 in
theorem tkX1_init : ttX1_init.all (fun r => r.2.all (g_cE 1 true cX1_init)) = true := by decide +kernel
set_option maxRecDepth 100000 in
theorem tkX1_clear : ttX1_clear.all (fun r => r.2.all (g_cE 1 false cX1_clear)) = true := by decide +kernel
set_option maxRecDepth 100000 in
theorem tkX1_openClause : ttX1_openClause.all (fun r => r.2.all (g_cE 1 false cX1_openClause)) = true := by decide +kernel
set_option maxRecDepth 100000 in
theorem tkX1_openCondition : ttX1_openCondition.all (fun r => r.2.all (g_cE 1 false cX1_openCondition)) = true := by decide +kernel
set_option maxRecDepth 100000 in
theorem tkX1_closeClause : ttX1_closeClause.all (fun r => r.2.all (g_cE 1 false cX1_closeClause)) = true := by decide +kernel
set_option maxRecDepth 100000 in
theorem tkX1_put : ttX1_put.all (fun r => r.2.all (g_cE 1 false cX1_put)) = true := by decide +kernel
set_option maxRecDepth 100000 in
theorem tkX1_land : ttX1_land.all (fun r => r.2.all (g_cE 1 false cX1_land)) = true := by decide +kernel
set_option maxRecDepth 100000 in
theorem tkX1_run_0 : ttX1_run_0.all (g_cE 1 false cX1_run) = true := by decide +kernel
set_option maxRecDepth 100000 in
theorem tkX1_run_1 : ttX1_run_1.all (g_cE 1 false cX1_run) = true := by decide +kernel
set_option maxRecDepth 100000 in
theorem tkX1_run_2 : ttX1_run_2.all (g_cE 1 false cX1_run) = true := by decide +kernel
set_option maxRecDepth 100000 in
theorem tkX1_run_3 : ttX1_run_3.all (g_cE 1 false cX1_run) = true := by decide +kernel
set_option maxRecDepth 100000 in
theorem tkX1_run_4 : ttX1_run_4.all (g_cE 1 false cX1_run) = true := by decide +kernel
set_option maxRecDepth 100000 in
theorem tkX1_run_5 : ttX1_run_5.all (g_cE 1 false cX1_run) = true := by decide +kernel
set_option maxRecDepth 100000 in
theorem tkX1_run_6 : ttX1_run_6.all (g_cE 1 false cX1_run) = true := by decide +kernel
set_option maxRecDepth 100000 in
theorem tkX1_run_7 : ttX1_run_7.all (g_cE 1 false cX1_run) = true := by decide +kernel
set_option maxRecDepth 100000 in
theorem tkX1_run_8 : ttX1_run_8.all (g_cE 1 false cX1_run) = true := by decide +kernel
set_option maxRecDepth 100000 in
theorem tkX1_run_9 : ttX1_run_9.all (g_cE 1 false cX1_run) = true := by decide +kernel
set_option maxRecDepth 100000 in
theorem tkX1_run_10 : ttX1_run_10.all (g_cE 1 false cX1_run) = true := by decide +kernel
set_option maxRecDepth 100000 in
theorem tkX1_run_11 : ttX1_run_11.all (g_cE 1 false cX1_run) = true := by decide +kernel
set_option maxRecDepth 100000 in
theorem tkX1_run_12 : ttX1_run_12.all (g_cE 1 false cX1_run) = true := by decide +kernel
