section Prt16a
set_option maxRecDepth 100000 in
theorem tkL_law_0 : ttL_law_0.all (g_cE 13 false code) = true := g_cF_l (by decide +kernel)
set_option maxRecDepth 100000 in
theorem tkL_law_1 : ttL_law_1.all (g_cE 13 false code) = true := g_cF_l (by decide +kernel)
set_option maxRecDepth 100000 in
theorem tkL_law_2 : ttL_law_2.all (g_cE 13 false code) = true := g_cF_l (by decide +kernel)
set_option maxRecDepth 100000 in
theorem tkL_law_3 : ttL_law_3.all (g_cE 13 false code) = true := g_cF_l (by decide +kernel)
set_option maxRecDepth 100000 in
theorem tkL_law_4 : ttL_law_4.all (g_cE 13 false code) = true := g_cF_l (by decide +kernel)
set_option maxRecDepth 100000 in
theorem tkL_law_5 : ttL_law_5.all (g_cE 13 false code) = true := g_cF_l (by decide +kernel)
set_option maxRecDepth 100000 in
theorem tkL_law_6 : ttL_law_6.all (g_cE 13 false code) = true := g_cF_l (by decide +kernel)
set_option maxRecDepth 100000 in
theorem tkL_law_7 : ttL_law_7.all (g_cE 13 false code) = true := g_cF_l (by decide +kernel)
set_option maxRecDepth 100000 in
theorem tkL_law_8 : ttL_law_8.all (g_cE 13 false code) = true := g_cF_l (by decide +kernel)
set_option maxRecDepth 100000 in
theorem tkL_law_9 : ttL_law_9.all (g_cE 13 false code) = true := g_cF_l (by decide +kernel)
set_option maxRecDepth 100000 in
theorem tkL_law_10 : ttL_law_10.all (g_cE 13 false code) = true := g_cF_l (by decide +kernel)
set_option maxRecDepth 100000 in
theorem tkL_law_11 : ttL_law_11.all (g_cE 13 false code) = true := g_cF_l (by decide +kernel)
set_option maxRecDepth 100000 in
theorem tkL_law_12 : ttL_law_12.all (g_cE 13 false code) = true := g_cF_l (by decide +kernel)
set_option maxRecDepth 100000 in
theorem tkL_law_13 : ttL_law_13.all (g_cE 13 false code) = true := g_cF_l (by decide +kernel)
set_option maxRecDepth 100000 in
theorem tkL_law_14 : ttL_law_14.all (g_cE 13 false code) = true := g_cF_l (by decide +kernel)
set_option maxRecDepth 100000 in
theorem tkL_law_15 : ttL_law_15.all (g_cE 13 false code) = true := g_cF_l (by decide +kernel)
set_option maxRecDepth 100000 in
theorem tkL_law_16 : ttL_law_16.all (g_cE 13 false code) = true := g_cF_l (by decide +kernel)
set_option maxRecDepth 100000 in
theorem tkL_law_17 : ttL_law_17.all (g_cE 13 false code) = true := g_cF_l (by decide +kernel)
set_option maxRecDepth 100000 in
theorem tkL_law_18 : ttL_law_18.all (g_cE 13 false code) = true := g_cF_l (by decide +kernel)
set_option maxRecDepth 100000 in
theorem tkL_law_19 : ttL_law_19.all (g_cE 13 false code) = true := g_cF_l (by decide +kernel)
set_option maxRecDepth 100000 in
theorem tkL_law_20 : ttL_law_20.all (g_cE 13 false code) = true := g_cF_l (by decide +kernel)
set_option maxRecDepth 100000 in
theorem tkL_law_21 : ttL_law_21.all (g_cE 13 false code) = true := g_cF_l (by decide +kernel)
set_option maxRecDepth 100000 in
theorem tkL_law_22 : ttL_law_22.all (g_cE 13 false code) = true := g_cF_l (by decide +kernel)
set_option maxRecDepth 100000 in
theorem tkL_law_23 : ttL_law_23.all (g_cE 13 false code) = true := g_cF_l (by decide +kernel)
set_option maxRecDepth 100000 in
theorem tkL_law_24 : ttL_law_24.all (g_cE 13 false code) = true := g_cF_l (by decide +kernel)
set_option maxRecDepth 100000 in
theorem tkL_law_25 : ttL_law_25.all (g_cE 13 false code) = true := g_cF_l (by decide +kernel)
set_option maxRecDepth 100000 in
theorem tkL_law_26 : ttL_law_26.all (g_cE 13 false code) = true := g_cF_l (by decide +kernel)
set_option maxRecDepth 100000 in
theorem tkL_law_27 : ttL_law_27.all (g_cE 13 false code) = true := g_cF_l (by decide +kernel)
set_option maxRecDepth 100000 in
theorem tkL_law_28 : ttL_law_28.all (g_cE 13 false code) = true := g_cF_l (by decide +kernel)
set_option maxRecDepth 100000 in
theorem tkL_law_29 : ttL_law_29.all (g_cE 13 false code) = true := g_cF_l (by decide +kernel)
set_option maxRecDepth 100000 in
theorem tkL_law_30 : ttL_law_30.all (g_cE 13 false code) = true := g_cF_l (by decide +kernel)
set_option maxRecDepth 100000 in
theorem tkL_law_31 : ttL_law_31.all (g_cE 13 false code) = true := g_cF_l (by decide +kernel)
set_option maxRecDepth 100000 in
theorem tkL_law_32 : ttL_law_32.all (g_cE 13 false code) = true := g_cF_l (by decide +kernel)
set_option maxRecDepth 100000 in
theorem tkL_law_33 : ttL_law_33.all (g_cE 13 false code) = true := g_cF_l (by decide +kernel)
set_option maxRecDepth 100000 in
theorem tkL_law_34 : ttL_law_34.all (g_cE 13 false code) = true := g_cF_l (by decide +kernel)
set_option maxRecDepth 100000 in
theorem tkL_law_35 : ttL_law_35.all (g_cE 13 false code) = true := g_cF_l (by decide +kernel)
set_option maxRecDepth 100000 in
theorem tkL_law_36 : ttL_law_36.all (g_cE 13 false code) = true := g_cF_l (by decide +kernel)
set_option maxRecDepth 100000 in
theorem tkL_law_37 : ttL_law_37.all (g_cE 13 false code) = true := g_cF_l (by decide +kernel)
set_option maxRecDepth 100000 in
theorem tkL_law_38 : ttL_law_38.all (g_cE 13 false code) = true := g_cF_l (by decide +kernel)
set_option maxRecDepth 100000 in
theorem tkL_law_39 : ttL_law_39.all (g_cE 13 false code) = true := g_cF_l (by decide +kernel)
end Prt16a
section Prt16b
set_option maxRecDepth 100000 in
theorem tkL_law_40 : ttL_law_40.all (g_cE 13 false code) = true := g_cF_l (by decide +kernel)
set_option maxRecDepth 100000 in
theorem tkL_law_41 : ttL_law_41.all (g_cE 13 false code) = true := g_cF_l (by decide +kernel)
set_option maxRecDepth 100000 in
theorem tkL_law_42 : ttL_law_42.all (g_cE 13 false code) = true := g_cF_l (by decide +kernel)
set_option maxRecDepth 100000 in
theorem tkL_law_43 : ttL_law_43.all (g_cE 13 false code) = true := g_cF_l (by decide +kernel)
set_option maxRecDepth 100000 in
theorem tkL_law_44 : ttL_law_44.all (g_cE 13 false code) = true := g_cF_l (by decide +kernel)
set_option maxRecDepth 100000 in
theorem tkL_law_45 : ttL_law_45.all (g_cE 13 false code) = true := g_cF_l (by decide +kernel)
set_option maxRecDepth 100000 in
theorem tkL_law_46 : ttL_law_46.all (g_cE 13 false code) = true := g_cF_l (by decide +kernel)
set_option maxRecDepth 100000 in
theorem tkL_law_47 : ttL_law_47.all (g_cE 13 false code) = true := g_cF_l (by decide +kernel)
set_option maxRecDepth 100000 in
theorem tkL_law_48 : ttL_law_48.all (g_cE 13 false code) = true := g_cF_l (by decide +kernel)
set_option maxRecDepth 100000 in
theorem tkL_law_49 : ttL_law_49.all (g_cE 13 false code) = true := g_cF_l (by decide +kernel)
set_option maxRecDepth 100000 in
theorem tkL_law_50 : ttL_law_50.all (g_cE 13 false code) = true := g_cF_l (by decide +kernel)
set_option maxRecDepth 100000 in
theorem tkL_law_51 : ttL_law_51.all (g_cE 13 false code) = true := g_cF_l (by decide +kernel)
set_option maxRecDepth 100000 in
theorem tkL_law_52 : ttL_law_52.all (g_cE 13 false code) = true := g_cF_l (by decide +kernel)
set_option maxRecDepth 100000 in
theorem tkL_law_53 : ttL_law_53.all (g_cE 13 false code) = true := g_cF_l (by decide +kernel)
set_option maxRecDepth 100000 in
theorem tkL_law_54 : ttL_law_54.all (g_cE 13 false code) = true := g_cF_l (by decide +kernel)
set_option maxRecDepth 100000 in
theorem tkL_law_55 : ttL_law_55.all (g_cE 13 false code) = true := g_cF_l (by decide +kernel)
set_option maxRecDepth 100000 in
theorem tkL_law_56 : ttL_law_56.all (g_cE 13 false code) = true := g_cF_l (by decide +kernel)
set_option maxRecDepth 100000 in
theorem tkL_law_57 : ttL_law_57.all (g_cE 13 false code) = true := g_cF_l (by decide +kernel)
set_option maxRecDepth 100000 in
theorem tkL_law_58 : ttL_law_58.all (g_cE 13 false code) = true := g_cF_l (by decide +kernel)
set_option maxRecDepth 100000 in
theorem tkL_law_59 : ttL_law_59.all (g_cE 13 false code) = true := g_cF_l (by decide +kernel)
set_option maxRecDepth 100000 in
theorem tkL_law_60 : ttL_law_60.all (g_cE 13 false code) = true := g_cF_l (by decide +kernel)
set_option maxRecDepth 100000 in
theorem tkL_law_61 : ttL_law_61.all (g_cE 13 false code) = true := g_cF_l (by decide +kernel)
set_option maxRecDepth 100000 in
theorem tkL_law_62 : ttL_law_62.all (g_cE 13 false code) = true := g_cF_l (by decide +kernel)
set_option maxRecDepth 100000 in
theorem tkL_law_63 : ttL_law_63.all (g_cE 13 false code) = true := g_cF_l (by decide +kernel)
set_option maxRecDepth 100000 in
theorem tkL_law_64 : ttL_law_64.all (g_cE 13 false code) = true := g_cF_l (by decide +kernel)
set_option maxRecDepth 100000 in
theorem tkL_law_65 : ttL_law_65.all (g_cE 13 false code) = true := g_cF_l (by decide +kernel)
set_option maxRecDepth 100000 in
theorem tkL_law_66 : ttL_law_66.all (g_cE 13 false code) = true := g_cF_l (by decide +kernel)
set_option maxRecDepth 100000 in
theorem tkL_law_67 : ttL_law_67.all (g_cE 13 false code) = true := g_cF_l (by decide +kernel)
set_option maxRecDepth 100000 in
theorem tkL_law_68 : ttL_law_68.all (g_cE 13 false code) = true := g_cF_l (by decide +kernel)
set_option maxRecDepth 100000 in
theorem tkL_law_69 : ttL_law_69.all (g_cE 13 false code) = true := g_cF_l (by decide +kernel)
set_option maxRecDepth 100000 in
theorem tkL_law_70 : ttL_law_70.all (g_cE 13 false code) = true := g_cF_l (by decide +kernel)
set_option maxRecDepth 100000 in
theorem tkL_law_71 : ttL_law_71.all (g_cE 13 false code) = true := g_cF_l (by decide +kernel)
set_option maxRecDepth 100000 in
theorem tkL_law_72 : ttL_law_72.all (g_cE 13 false code) = true := g_cF_l (by decide +kernel)
set_option maxRecDepth 100000 in
theorem tkL_law_73 : ttL_law_73.all (g_cE 13 false code) = true := g_cF_l (by decide +kernel)
set_option maxRecDepth 100000 in
theorem tkL_law_74 : ttL_law_74.all (g_cE 13 false code) = true := g_cF_l (by decide +kernel)
set_option maxRecDepth 100000 in
theorem tkL_law_75 : ttL_law_75.all (g_cE 13 false code) = true := g_cF_l (by decide +kernel)
set_option maxRecDepth 100000 in
theorem tkL_law_76 : ttL_law_76.all (g_cE 13 false code) = true := g_cF_l (by decide +kernel)
set_option maxRecDepth 100000 in
theorem tkL_law_77 : ttL_law_77.all (g_cE 13 false code) = true := g_cF_l (by decide +kernel)
set_option maxRecDepth 100000 in
theorem tkL_law_78 : ttL_law_78.all (g_cE 13 false code) = true := g_cF_l (by decide +kernel)
set_option maxRecDepth 100000 in
theorem tkL_law_79 : ttL_law_79.all (g_cE 13 false code) = true := g_cF_l (by decide +kernel)
end Prt16b
section Prt16c
set_option maxRecDepth 100000 in
theorem tkL_law_80 : ttL_law_80.all (g_cE 13 false code) = true := g_cF_l (by decide +kernel)
set_option maxRecDepth 100000 in
theorem tkL_law_81 : ttL_law_81.all (g_cE 13 false code) = true := g_cF_l (by decide +kernel)
set_option maxRecDepth 100000 in
theorem tkL_law_82 : ttL_law_82.all (g_cE 13 false code) = true := g_cF_l (by decide +kernel)
set_option maxRecDepth 100000 in
theorem tkL_law_83 : ttL_law_83.all (g_cE 13 false code) = true := g_cF_l (by decide +kernel)
set_option maxRecDepth 100000 in
theorem tkL_law_84 : ttL_law_84.all (g_cE 13 false code) = true := g_cF_l (by decide +kernel)
set_option maxRecDepth 100000 in
theorem tkL_law_85 : ttL_law_85.all (g_cE 13 false code) = true := g_cF_l (by decide +kernel)
set_option maxRecDepth 100000 in
theorem tkL_law_86 : ttL_law_86.all (g_cE 13 false code) = true := g_cF_l (by decide +kernel)
set_option maxRecDepth 100000 in
theorem tkL_law_87 : ttL_law_87.all (g_cE 13 false code) = true := g_cF_l (by decide +kernel)
theorem tkL_law : ttL_law.all (fun r => r.2.all (g_cE 13 false code)) = true := by
  unfold ttL_law
  simp only [List.all_cons, List.all_nil, Bool.and_true, Bool.and_eq_true]
  exact ⟨tkL_law_0, tkL_law_1, tkL_law_2, tkL_law_3, tkL_law_4, tkL_law_5, tkL_law_6, tkL_law_7, tkL_law_8, tkL_law_9, tkL_law_10, tkL_law_11, tkL_law_12, tkL_law_13, tkL_law_14, tkL_law_15, tkL_law_16, tkL_law_17, tkL_law_18, tkL_law_19, tkL_law_20, tkL_law_21, tkL_law_22, tkL_law_23, tkL_law_24, tkL_law_25, tkL_law_26, tkL_law_27, tkL_law_28, tkL_law_29, tkL_law_30, tkL_law_31, tkL_law_32, tkL_law_33, tkL_law_34, tkL_law_35, tkL_law_36, tkL_law_37, tkL_law_38, tkL_law_39, tkL_law_40, tkL_law_41, tkL_law_42, tkL_law_43, tkL_law_44, tkL_law_45, tkL_law_46, tkL_law_47, tkL_law_48, tkL_law_49, tkL_law_50, tkL_law_51, tkL_law_52, tkL_law_53, tkL_law_54, tkL_law_55, tkL_law_56, tkL_law_57, tkL_law_58, tkL_law_59, tkL_law_60, tkL_law_61, tkL_law_62, tkL_law_63, tkL_law_64, tkL_law_65, tkL_law_66, tkL_law_67, tkL_law_68, tkL_law_69, tkL_law_70, tkL_law_71, tkL_law_72, tkL_law_73, tkL_law_74, tkL_law_75, tkL_law_76, tkL_law_77, tkL_law_78, tkL_law_79, tkL_law_80, tkL_law_81, tkL_law_82, tkL_law_83, tkL_law_84, tkL_law_85, tkL_law_86, tkL_law_87⟩
set_option maxRecDepth 100000 in
theorem tkX0_init : ttX0_init.all (fun r => r.2.all (g_cE 0 true cX0_init)) = true := g_cF_ll (by decide +kernel)
set_option maxRecDepth 100000 in
theorem tkX0_go : ttX0_go.all (fun r => r.2.all (g_cE 0 false cX0_go)) = true := g_cF_ll (by decide +kernel)
set_option maxRecDepth 100000 in
theorem tkX0_pass : ttX0_pass.all (fun r => r.2.all (g_cE 0 false cX0_pass)) = true := g_cF_ll (by decide +kernel)
set_option maxRecDepth 100000 in
theorem tkX0_weaken : ttX0_weaken.all (fun r => r.2.all (g_cE 0 false cX0_weaken)) = true := g_cF_ll (by decide +kernel)
set_option maxRecDepth 100000 in
theorem tkX0_strengthen : ttX0_strengthen.all (fun r => r.2.all (g_cE 0 false cX0_strengthen)) = true := g_cF_ll (by decide +kernel)
set_option maxRecDepth 100000 in
theorem tkX0_teach : ttX0_teach.all (fun r => r.2.all (g_cE 0 false cX0_teach)) = true := g_cF_ll (by decide +kernel)
set_option maxRecDepth 100000 in
theorem tkX0_breakToys : ttX0_breakToys.all (fun r => r.2.all (g_cE 0 false cX0_breakToys)) = true := g_cF_ll (by decide +kernel)
set_option maxRecDepth 100000 in
theorem tkX0_quarrelAll : ttX0_quarrelAll.all (fun r => r.2.all (g_cE 0 false cX0_quarrelAll)) = true := g_cF_ll (by decide +kernel)
set_option maxRecDepth 100000 in
theorem tkX0_recover : ttX0_recover.all (fun r => r.2.all (g_cE 0 false cX0_recover)) = true := g_cF_ll (by decide +kernel)
set_option maxRecDepth 100000 in
theorem tkX0_sicken : ttX0_sicken.all (fun r => r.2.all (g_cE 0 false cX0_sicken)) = true := g_cF_ll (by decide +kernel)
set_option maxRecDepth 100000 in
theorem tkX0_askRules : ttX0_askRules.all (fun r => r.2.all (g_cE 0 false cX0_askRules)) = true := g_cF_ll (by decide +kernel)
set_option maxRecDepth 100000 in
theorem tkX1_init : ttX1_init.all (fun r => r.2.all (g_cE 1 true cX1_init)) = true := g_cF_ll (by decide +kernel)
set_option maxRecDepth 100000 in
theorem tkX1_clear : ttX1_clear.all (fun r => r.2.all (g_cE 1 false cX1_clear)) = true := g_cF_ll (by decide +kernel)
set_option maxRecDepth 100000 in
theorem tkX1_openClause : ttX1_openClause.all (fun r => r.2.all (g_cE 1 false cX1_openClause)) = true := g_cF_ll (by decide +kernel)
set_option maxRecDepth 100000 in
theorem tkX1_openCondition : ttX1_openCondition.all (fun r => r.2.all (g_cE 1 false cX1_openCondition)) = true := g_cF_ll (by decide +kernel)
set_option maxRecDepth 100000 in
theorem tkX1_closeClause : ttX1_closeClause.all (fun r => r.2.all (g_cE 1 false cX1_closeClause)) = true := g_cF_ll (by decide +kernel)
set_option maxRecDepth 100000 in
theorem tkX1_put : ttX1_put.all (fun r => r.2.all (g_cE 1 false cX1_put)) = true := g_cF_ll (by decide +kernel)
set_option maxRecDepth 100000 in
theorem tkX1_land : ttX1_land.all (fun r => r.2.all (g_cE 1 false cX1_land)) = true := g_cF_ll (by decide +kernel)
set_option maxRecDepth 100000 in
theorem tkX1_run_0 : ttX1_run_0.all (g_cE 1 false cX1_run) = true := g_cF_l (by decide +kernel)
set_option maxRecDepth 100000 in
theorem tkX1_run_1 : ttX1_run_1.all (g_cE 1 false cX1_run) = true := g_cF_l (by decide +kernel)
set_option maxRecDepth 100000 in
theorem tkX1_run_2 : ttX1_run_2.all (g_cE 1 false cX1_run) = true := g_cF_l (by decide +kernel)
set_option maxRecDepth 100000 in
theorem tkX1_run_3 : ttX1_run_3.all (g_cE 1 false cX1_run) = true := g_cF_l (by decide +kernel)
set_option maxRecDepth 100000 in
theorem tkX1_run_4 : ttX1_run_4.all (g_cE 1 false cX1_run) = true := g_cF_l (by decide +kernel)
set_option maxRecDepth 100000 in
theorem tkX1_run_5 : ttX1_run_5.all (g_cE 1 false cX1_run) = true := g_cF_l (by decide +kernel)
set_option maxRecDepth 100000 in
theorem tkX1_run_6 : ttX1_run_6.all (g_cE 1 false cX1_run) = true := g_cF_l (by decide +kernel)
set_option maxRecDepth 100000 in
theorem tkX1_run_7 : ttX1_run_7.all (g_cE 1 false cX1_run) = true := g_cF_l (by decide +kernel)
set_option maxRecDepth 100000 in
theorem tkX1_run_8 : ttX1_run_8.all (g_cE 1 false cX1_run) = true := g_cF_l (by decide +kernel)
set_option maxRecDepth 100000 in
theorem tkX1_run_9 : ttX1_run_9.all (g_cE 1 false cX1_run) = true := g_cF_l (by decide +kernel)
set_option maxRecDepth 100000 in
theorem tkX1_run_10 : ttX1_run_10.all (g_cE 1 false cX1_run) = true := g_cF_l (by decide +kernel)
set_option maxRecDepth 100000 in
theorem tkX1_run_11 : ttX1_run_11.all (g_cE 1 false cX1_run) = true := g_cF_l (by decide +kernel)
set_option maxRecDepth 100000 in
theorem tkX1_run_12 : ttX1_run_12.all (g_cE 1 false cX1_run) = true := g_cF_l (by decide +kernel)
end Prt16c
section Prt16d
set_option maxRecDepth 100000 in
theorem tkX1_run_13 : ttX1_run_13.all (g_cE 1 false cX1_run) = true := g_cF_l (by decide +kernel)
set_option maxRecDepth 100000 in
theorem tkX1_run_14 : ttX1_run_14.all (g_cE 1 false cX1_run) = true := g_cF_l (by decide +kernel)
theorem tkX1_run : ttX1_run.all (fun r => r.2.all (g_cE 1 false cX1_run)) = true := by
  unfold ttX1_run
  simp only [List.all_cons, List.all_nil, Bool.and_true, Bool.and_eq_true]
  exact ⟨tkX1_run_0, tkX1_run_1, tkX1_run_2, tkX1_run_3, tkX1_run_4, tkX1_run_5, tkX1_run_6, tkX1_run_7, tkX1_run_8, tkX1_run_9, tkX1_run_10, tkX1_run_11, tkX1_run_12, tkX1_run_13, tkX1_run_14⟩
set_option maxRecDepth 100000 in
theorem tkX1_valueAt : ttX1_valueAt.all (fun r => r.2.all (g_cE 1 false cX1_valueAt)) = true := g_cF_ll (by decide +kernel)
set_option maxRecDepth 100000 in
theorem tkX1_join : ttX1_join.all (fun r => r.2.all (g_cE 1 false cX1_join)) = true := g_cF_ll (by decide +kernel)
set_option maxRecDepth 100000 in
theorem tkX2_init : ttX2_init.all (fun r => r.2.all (g_cE 2 true cX2_init)) = true := g_cF_ll (by decide +kernel)
set_option maxRecDepth 100000 in
theorem tkX2_keeperOf : ttX2_keeperOf.all (fun r => r.2.all (g_cE 2 false cX2_keeperOf)) = true := g_cF_ll (by decide +kernel)
set_option maxRecDepth 100000 in
theorem tkX2_readRow : ttX2_readRow.all (fun r => r.2.all (g_cE 2 false cX2_readRow)) = true := g_cF_ll (by decide +kernel)
set_option maxRecDepth 100000 in
theorem tkX2_envious : ttX2_envious.all (fun r => r.2.all (g_cE 2 false cX2_envious)) = true := g_cF_ll (by decide +kernel)
set_option maxRecDepth 100000 in
theorem tkX2_highest : ttX2_highest.all (fun r => r.2.all (g_cE 2 false cX2_highest)) = true := g_cF_ll (by decide +kernel)
set_option maxRecDepth 100000 in
theorem tkX2_dearest : ttX2_dearest.all (fun r => r.2.all (g_cE 2 false cX2_dearest)) = true := g_cF_ll (by decide +kernel)
set_option maxRecDepth 100000 in
theorem tkX2_higher : ttX2_higher.all (fun r => r.2.all (g_cE 2 false cX2_higher)) = true := g_cF_ll (by decide +kernel)
set_option maxRecDepth 100000 in
theorem tkX2_dearer : ttX2_dearer.all (fun r => r.2.all (g_cE 2 false cX2_dearer)) = true := g_cF_ll (by decide +kernel)
set_option maxRecDepth 100000 in
theorem tkX3_init : ttX3_init.all (fun r => r.2.all (g_cE 3 true cX3_init)) = true := g_cF_ll (by decide +kernel)
set_option maxRecDepth 100000 in
theorem tkX3_exchangeLaw : ttX3_exchangeLaw.all (fun r => r.2.all (g_cE 3 false cX3_exchangeLaw)) = true := g_cF_ll (by decide +kernel)
set_option maxRecDepth 100000 in
theorem tkX3_exchangeRules : ttX3_exchangeRules.all (fun r => r.2.all (g_cE 3 false cX3_exchangeRules)) = true := g_cF_ll (by decide +kernel)
set_option maxRecDepth 100000 in
theorem tkX3_clauses : ttX3_clauses.all (fun r => r.2.all (g_cE 3 false cX3_clauses)) = true := g_cF_ll (by decide +kernel)
set_option maxRecDepth 100000 in
theorem tkX3_ruleCount : ttX3_ruleCount.all (fun r => r.2.all (g_cE 3 false cX3_ruleCount)) = true := g_cF_ll (by decide +kernel)
set_option maxRecDepth 100000 in
theorem tkX3_ofGust : ttX3_ofGust.all (fun r => r.2.all (g_cE 3 false cX3_ofGust)) = true := g_cF_ll (by decide +kernel)
set_option maxRecDepth 100000 in
theorem tkX3_learns : ttX3_learns.all (fun r => r.2.all (g_cE 3 false cX3_learns)) = true := g_cF_ll (by decide +kernel)
set_option maxRecDepth 100000 in
theorem tkX3_atOdds : ttX3_atOdds.all (fun r => r.2.all (g_cE 3 false cX3_atOdds)) = true := g_cF_ll (by decide +kernel)
set_option maxRecDepth 100000 in
theorem tkX3_illness : ttX3_illness.all (fun r => r.2.all (g_cE 3 false cX3_illness)) = true := g_cF_ll (by decide +kernel)
set_option maxRecDepth 100000 in
theorem tkX3_firstBroken : ttX3_firstBroken.all (fun r => r.2.all (g_cE 3 false cX3_firstBroken)) = true := g_cF_ll (by decide +kernel)
set_option maxRecDepth 100000 in
theorem tkX3_lookAtGust : ttX3_lookAtGust.all (fun r => r.2.all (g_cE 3 false cX3_lookAtGust)) = true := g_cF_ll (by decide +kernel)
set_option maxRecDepth 100000 in
theorem tkX3_lookAtTwo : ttX3_lookAtTwo.all (fun r => r.2.all (g_cE 3 false cX3_lookAtTwo)) = true := g_cF_ll (by decide +kernel)
set_option maxRecDepth 100000 in
theorem tkX3_lookAtWard : ttX3_lookAtWard.all (fun r => r.2.all (g_cE 3 false cX3_lookAtWard)) = true := g_cF_ll (by decide +kernel)
set_option maxRecDepth 100000 in
theorem tkX3_firstAmount : ttX3_firstAmount.all (fun r => r.2.all (g_cE 3 false cX3_firstAmount)) = true := g_cF_ll (by decide +kernel)
set_option maxRecDepth 100000 in
theorem tkX3_anyHolds : ttX3_anyHolds.all (fun r => r.2.all (g_cE 3 false cX3_anyHolds)) = true := g_cF_ll (by decide +kernel)
set_option maxRecDepth 100000 in
theorem tkX4_init : ttX4_init.all (fun r => r.2.all (g_cE 4 true cX4_init)) = true := g_cF_ll (by decide +kernel)
set_option maxRecDepth 100000 in
theorem tkX4_lodge : ttX4_lodge.all (fun r => r.2.all (g_cE 4 false cX4_lodge)) = true := g_cF_ll (by decide +kernel)
set_option maxRecDepth 100000 in
theorem tkX4_staff : ttX4_staff.all (fun r => r.2.all (g_cE 4 false cX4_staff)) = true := g_cF_ll (by decide +kernel)
set_option maxRecDepth 100000 in
theorem tkX4_chosenFor : ttX4_chosenFor.all (fun r => r.2.all (g_cE 4 false cX4_chosenFor)) = true := g_cF_ll (by decide +kernel)
set_option maxRecDepth 100000 in
theorem tkX4_ring : ttX4_ring.all (fun r => r.2.all (g_cE 4 false cX4_ring)) = true := g_cF_ll (by decide +kernel)
set_option maxRecDepth 100000 in
theorem tkX4_ringAt : ttX4_ringAt.all (fun r => r.2.all (g_cE 4 false cX4_ringAt)) = true := g_cF_ll (by decide +kernel)
set_option maxRecDepth 100000 in
theorem tkX4_spread : ttX4_spread.all (fun r => r.2.all (g_cE 4 false cX4_spread)) = true := g_cF_ll (by decide +kernel)
set_option maxRecDepth 100000 in
theorem tkX4_learnOdds : ttX4_learnOdds.all (fun r => r.2.all (g_cE 4 false cX4_learnOdds)) = true := g_cF_ll (by decide +kernel)
set_option maxRecDepth 100000 in
theorem tkX4_lodgeFrom : ttX4_lodgeFrom.all (fun r => r.2.all (g_cE 4 false cX4_lodgeFrom)) = true := g_cF_ll (by decide +kernel)
set_option maxRecDepth 100000 in
theorem tkX4_staffFrom : ttX4_staffFrom.all (fun r => r.2.all (g_cE 4 false cX4_staffFrom)) = true := g_cF_ll (by decide +kernel)
set_option maxRecDepth 100000 in
theorem tkX4_keepRow : ttX4_keepRow.all (fun r => r.2.all (g_cE 4 false cX4_keepRow)) = true := g_cF_ll (by decide +kernel)
set_option maxRecDepth 100000 in
theorem tkX4_waysOn : ttX4_waysOn.all (fun r => r.2.all (g_cE 4 false cX4_waysOn)) = true := g_cF_ll (by decide +kernel)
end Prt16d
section Prt16e
set_option maxRecDepth 100000 in
theorem tkX4_walkFirst : ttX4_walkFirst.all (fun r => r.2.all (g_cE 4 false cX4_walkFirst)) = true := g_cF_ll (by decide +kernel)
set_option maxRecDepth 100000 in
theorem tkX4_firstOn : ttX4_firstOn.all (fun r => r.2.all (g_cE 4 false cX4_firstOn)) = true := g_cF_ll (by decide +kernel)
set_option maxRecDepth 100000 in
theorem tkX5_init : ttX5_init.all (fun r => r.2.all (g_cE 5 true cX5_init)) = true := g_cF_ll (by decide +kernel)
set_option maxRecDepth 100000 in
theorem tkX5_readText : ttX5_readText.all (fun r => r.2.all (g_cE 5 false cX5_readText)) = true := g_cF_ll (by decide +kernel)
set_option maxRecDepth 100000 in
theorem tkX5_readTimetable : ttX5_readTimetable.all (fun r => r.2.all (g_cE 5 false cX5_readTimetable)) = true := g_cF_ll (by decide +kernel)
set_option maxRecDepth 100000 in
theorem tkX5_begin : ttX5_begin.all (fun r => r.2.all (g_cE 5 false cX5_begin)) = true := g_cF_ll (by decide +kernel)
set_option maxRecDepth 100000 in
theorem tkX5_here : ttX5_here.all (fun r => r.2.all (g_cE 5 false cX5_here)) = true := g_cF_ll (by decide +kernel)
set_option maxRecDepth 100000 in
theorem tkX5_fail : ttX5_fail.all (fun r => r.2.all (g_cE 5 false cX5_fail)) = true := g_cF_ll (by decide +kernel)
set_option maxRecDepth 100000 in
theorem tkX5_expect : ttX5_expect.all (fun r => r.2.all (g_cE 5 false cX5_expect)) = true := g_cF_ll (by decide +kernel)
set_option maxRecDepth 100000 in
theorem tkX5_opens : ttX5_opens.all (fun r => r.2.all (g_cE 5 false cX5_opens)) = true := g_cF_ll (by decide +kernel)
set_option maxRecDepth 100000 in
theorem tkX5_readClause : ttX5_readClause.all (fun r => r.2.all (g_cE 5 false cX5_readClause)) = true := g_cF_ll (by decide +kernel)
set_option maxRecDepth 100000 in
theorem tkX5_readRule : ttX5_readRule.all (fun r => r.2.all (g_cE 5 false cX5_readRule)) = true := g_cF_ll (by decide +kernel)
set_option maxRecDepth 100000 in
theorem tkX5_readWhole : ttX5_readWhole.all (fun r => r.2.all (g_cE 5 false cX5_readWhole)) = true := g_cF_ll (by decide +kernel)
set_option maxRecDepth 100000 in
theorem tkX5_readBracket : ttX5_readBracket.all (fun r => r.2.all (g_cE 5 false cX5_readBracket)) = true := g_cF_ll (by decide +kernel)
set_option maxRecDepth 100000 in
theorem tkX5_readCondition : ttX5_readCondition.all (fun r => r.2.all (g_cE 5 false cX5_readCondition)) = true := g_cF_ll (by decide +kernel)
set_option maxRecDepth 100000 in
theorem tkX5_readPart : ttX5_readPart.all (fun r => r.2.all (g_cE 5 false cX5_readPart)) = true := g_cF_ll (by decide +kernel)
set_option maxRecDepth 100000 in
theorem tkX5_readTest : ttX5_readTest.all (fun r => r.2.all (g_cE 5 false cX5_readTest)) = true := g_cF_ll (by decide +kernel)
set_option maxRecDepth 100000 in
theorem tkX5_readSum : ttX5_readSum.all (fun r => r.2.all (g_cE 5 false cX5_readSum)) = true := g_cF_ll (by decide +kernel)
set_option maxRecDepth 100000 in
theorem tkX5_readTerm : ttX5_readTerm.all (fun r => r.2.all (g_cE 5 false cX5_readTerm)) = true := g_cF_ll (by decide +kernel)
set_option maxRecDepth 100000 in
theorem tkX5_readFactor : ttX5_readFactor.all (fun r => r.2.all (g_cE 5 false cX5_readFactor)) = true := g_cF_ll (by decide +kernel)
set_option maxRecDepth 100000 in
theorem tkX5_readNumber : ttX5_readNumber.all (fun r => r.2.all (g_cE 5 false cX5_readNumber)) = true := g_cF_ll (by decide +kernel)
set_option maxRecDepth 100000 in
theorem tkX5_readMonths : ttX5_readMonths.all (fun r => r.2.all (g_cE 5 false cX5_readMonths)) = true := g_cF_ll (by decide +kernel)
set_option maxRecDepth 100000 in
theorem tkX5_readMonth : ttX5_readMonth.all (fun r => r.2.all (g_cE 5 false cX5_readMonth)) = true := g_cF_ll (by decide +kernel)
set_option maxRecDepth 100000 in
theorem tkX5_readGroup : ttX5_readGroup.all (fun r => r.2.all (g_cE 5 false cX5_readGroup)) = true := g_cF_ll (by decide +kernel)
set_option maxRecDepth 100000 in
theorem tkX5_writeMonth : ttX5_writeMonth.all (fun r => r.2.all (g_cE 5 false cX5_writeMonth)) = true := g_cF_ll (by decide +kernel)
set_option maxRecDepth 100000 in
theorem tkX5_repeat : ttX5_repeat.all (fun r => r.2.all (g_cE 5 false cX5_repeat)) = true := g_cF_ll (by decide +kernel)
set_option maxRecDepth 100000 in
theorem tkX6_init : ttX6_init.all (fun r => r.2.all (g_cE 6 true cX6_init)) = true := g_cF_ll (by decide +kernel)
set_option maxRecDepth 100000 in
theorem tkX6_order : ttX6_order.all (fun r => r.2.all (g_cE 6 false cX6_order)) = true := g_cF_ll (by decide +kernel)
set_option maxRecDepth 100000 in
theorem tkX6_withNeeds : ttX6_withNeeds.all (fun r => r.2.all (g_cE 6 false cX6_withNeeds)) = true := g_cF_ll (by decide +kernel)
set_option maxRecDepth 100000 in
theorem tkX6_lowestReady : ttX6_lowestReady.all (fun r => r.2.all (g_cE 6 false cX6_lowestReady)) = true := g_cF_ll (by decide +kernel)
set_option maxRecDepth 100000 in
theorem tkX7_init : ttX7_init.all (fun r => r.2.all (g_cE 7 true cX7_init)) = true := g_cF_ll (by decide +kernel)
set_option maxRecDepth 100000 in
theorem tkX7_hasGust : ttX7_hasGust.all (fun r => r.2.all (g_cE 7 false cX7_hasGust)) = true := g_cF_ll (by decide +kernel)
set_option maxRecDepth 100000 in
theorem tkX7_hasNurse : ttX7_hasNurse.all (fun r => r.2.all (g_cE 7 false cX7_hasNurse)) = true := g_cF_ll (by decide +kernel)
set_option maxRecDepth 100000 in
theorem tkX7_works : ttX7_works.all (fun r => r.2.all (g_cE 7 false cX7_works)) = true := g_cF_ll (by decide +kernel)
set_option maxRecDepth 100000 in
theorem tkX7_inWard : ttX7_inWard.all (fun r => r.2.all (g_cE 7 false cX7_inWard)) = true := g_cF_ll (by decide +kernel)
set_option maxRecDepth 100000 in
theorem tkX7_draw : ttX7_draw.all (fun r => r.2.all (g_cE 7 false cX7_draw)) = true := g_cF_ll (by decide +kernel)
set_option maxRecDepth 100000 in
theorem tkX7_copy : ttX7_copy.all (fun r => r.2.all (g_cE 7 false cX7_copy)) = true := g_cF_ll (by decide +kernel)
set_option maxRecDepth 100000 in
theorem tkX8_init : ttX8_init.all (fun r => r.2.all (g_cE 8 true cX8_init)) = true := g_cF_ll (by decide +kernel)
set_option maxRecDepth 100000 in
theorem tkX8_takes : ttX8_takes.all (fun r => r.2.all (g_cE 8 false cX8_takes)) = true := g_cF_ll (by decide +kernel)
set_option maxRecDepth 100000 in
theorem tkX8_append : ttX8_append.all (fun r => r.2.all (g_cE 8 false cX8_append)) = true := g_cF_ll (by decide +kernel)
end Prt16e
section Prt16f
set_option maxRecDepth 100000 in
theorem tkX8_at : ttX8_at.all (fun r => r.2.all (g_cE 8 false cX8_at)) = true := g_cF_ll (by decide +kernel)
set_option maxRecDepth 100000 in
theorem tkX8_empty : ttX8_empty.all (fun r => r.2.all (g_cE 8 false cX8_empty)) = true := g_cF_ll (by decide +kernel)
set_option maxRecDepth 100000 in
theorem tkX9_init : ttX9_init.all (fun r => r.2.all (g_cE 9 true cX9_init)) = true := g_cF_ll (by decide +kernel)
set_option maxRecDepth 100000 in
theorem tkX9_learnFrom : ttX9_learnFrom.all (fun r => r.2.all (g_cE 9 false cX9_learnFrom)) = true := g_cF_ll (by decide +kernel)
set_option maxRecDepth 100000 in
theorem tkX9_lessonAt : ttX9_lessonAt.all (fun r => r.2.all (g_cE 9 false cX9_lessonAt)) = true := g_cF_ll (by decide +kernel)
set_option maxRecDepth 100000 in
theorem tkX9_placeAfter : ttX9_placeAfter.all (fun r => r.2.all (g_cE 9 false cX9_placeAfter)) = true := g_cF_ll (by decide +kernel)
set_option maxRecDepth 100000 in
theorem tkX10_init : ttX10_init.all (fun r => r.2.all (g_cE 10 true cX10_init)) = true := g_cF_ll (by decide +kernel)
set_option maxRecDepth 100000 in
theorem tkX10_sendOff : ttX10_sendOff.all (fun r => r.2.all (g_cE 10 false cX10_sendOff)) = true := g_cF_ll (by decide +kernel)
set_option maxRecDepth 100000 in
theorem tkX10_windOf : ttX10_windOf.all (fun r => r.2.all (g_cE 10 false cX10_windOf)) = true := g_cF_ll (by decide +kernel)
set_option maxRecDepth 100000 in
theorem tkX10_sendFrom_0 : ttX10_sendFrom_0.all (g_cE 10 false cX10_sendFrom) = true := g_cF_l (by decide +kernel)
set_option maxRecDepth 100000 in
theorem tkX10_sendFrom_1 : ttX10_sendFrom_1.all (g_cE 10 false cX10_sendFrom) = true := g_cF_l (by decide +kernel)
set_option maxRecDepth 100000 in
theorem tkX10_sendFrom_2 : ttX10_sendFrom_2.all (g_cE 10 false cX10_sendFrom) = true := g_cF_l (by decide +kernel)
set_option maxRecDepth 100000 in
theorem tkX10_sendFrom_3 : ttX10_sendFrom_3.all (g_cE 10 false cX10_sendFrom) = true := g_cF_l (by decide +kernel)
set_option maxRecDepth 100000 in
theorem tkX10_sendFrom_4 : ttX10_sendFrom_4.all (g_cE 10 false cX10_sendFrom) = true := g_cF_l (by decide +kernel)
set_option maxRecDepth 100000 in
theorem tkX10_sendFrom_5 : ttX10_sendFrom_5.all (g_cE 10 false cX10_sendFrom) = true := g_cF_l (by decide +kernel)
set_option maxRecDepth 100000 in
theorem tkX10_sendFrom_6 : ttX10_sendFrom_6.all (g_cE 10 false cX10_sendFrom) = true := g_cF_l (by decide +kernel)
set_option maxRecDepth 100000 in
theorem tkX10_sendFrom_7 : ttX10_sendFrom_7.all (g_cE 10 false cX10_sendFrom) = true := g_cF_l (by decide +kernel)
set_option maxRecDepth 100000 in
theorem tkX10_sendFrom_8 : ttX10_sendFrom_8.all (g_cE 10 false cX10_sendFrom) = true := g_cF_l (by decide +kernel)
set_option maxRecDepth 100000 in
theorem tkX10_sendFrom_9 : ttX10_sendFrom_9.all (g_cE 10 false cX10_sendFrom) = true := g_cF_l (by decide +kernel)
set_option maxRecDepth 100000 in
theorem tkX10_sendFrom_10 : ttX10_sendFrom_10.all (g_cE 10 false cX10_sendFrom) = true := g_cF_l (by decide +kernel)
theorem tkX10_sendFrom : ttX10_sendFrom.all (fun r => r.2.all (g_cE 10 false cX10_sendFrom)) = true := by
  unfold ttX10_sendFrom
  simp only [List.all_cons, List.all_nil, Bool.and_true, Bool.and_eq_true]
  exact ⟨tkX10_sendFrom_0, tkX10_sendFrom_1, tkX10_sendFrom_2, tkX10_sendFrom_3, tkX10_sendFrom_4, tkX10_sendFrom_5, tkX10_sendFrom_6, tkX10_sendFrom_7, tkX10_sendFrom_8, tkX10_sendFrom_9, tkX10_sendFrom_10⟩
set_option maxRecDepth 100000 in
theorem tkX10_mayBeat : ttX10_mayBeat.all (fun r => r.2.all (g_cE 10 false cX10_mayBeat)) = true := g_cF_ll (by decide +kernel)
set_option maxRecDepth 100000 in
theorem tkX10_windOfGale : ttX10_windOfGale.all (fun r => r.2.all (g_cE 10 false cX10_windOfGale)) = true := g_cF_ll (by decide +kernel)
set_option maxRecDepth 100000 in
theorem tkX10_carries : ttX10_carries.all (fun r => r.2.all (g_cE 10 false cX10_carries)) = true := g_cF_ll (by decide +kernel)
set_option maxRecDepth 100000 in
theorem tkX11_init : ttX11_init.all (fun r => r.2.all (g_cE 11 true cX11_init)) = true := g_cF_ll (by decide +kernel)
set_option maxRecDepth 100000 in
theorem tkX11_gust : ttX11_gust.all (fun r => r.2.all (g_cE 11 false cX11_gust)) = true := g_cF_ll (by decide +kernel)
set_option maxRecDepth 100000 in
theorem tkX11_name : ttX11_name.all (fun r => r.2.all (g_cE 11 false cX11_name)) = true := g_cF_ll (by decide +kernel)
set_option maxRecDepth 100000 in
theorem tkX11_moves : ttX11_moves.all (fun r => r.2.all (g_cE 11 false cX11_moves)) = true := g_cF_ll (by decide +kernel)
set_option maxRecDepth 100000 in
theorem tkX11_habit : ttX11_habit.all (fun r => r.2.all (g_cE 11 false cX11_habit)) = true := g_cF_ll (by decide +kernel)
set_option maxRecDepth 100000 in
theorem tkX11_ward : ttX11_ward.all (fun r => r.2.all (g_cE 11 false cX11_ward)) = true := g_cF_ll (by decide +kernel)
set_option maxRecDepth 100000 in
theorem tkX11_nurse : ttX11_nurse.all (fun r => r.2.all (g_cE 11 false cX11_nurse)) = true := g_cF_ll (by decide +kernel)
set_option maxRecDepth 100000 in
theorem tkX11_needs : ttX11_needs.all (fun r => r.2.all (g_cE 11 false cX11_needs)) = true := g_cF_ll (by decide +kernel)
set_option maxRecDepth 100000 in
theorem tkX11_wind : ttX11_wind.all (fun r => r.2.all (g_cE 11 false cX11_wind)) = true := g_cF_ll (by decide +kernel)
set_option maxRecDepth 100000 in
theorem tkX11_home : ttX11_home.all (fun r => r.2.all (g_cE 11 false cX11_home)) = true := g_cF_ll (by decide +kernel)
set_option maxRecDepth 100000 in
theorem tkX11_house : ttX11_house.all (fun r => r.2.all (g_cE 11 false cX11_house)) = true := g_cF_ll (by decide +kernel)
set_option maxRecDepth 100000 in
theorem tkX11_seed : ttX11_seed.all (fun r => r.2.all (g_cE 11 false cX11_seed)) = true := g_cF_ll (by decide +kernel)
set_option maxRecDepth 100000 in
theorem tkX11_feed : ttX11_feed.all (fun r => r.2.all (g_cE 11 false cX11_feed)) = true := g_cF_ll (by decide +kernel)
set_option maxRecDepth 100000 in
theorem tkX11_law : ttX11_law.all (fun r => r.2.all (g_cE 11 false cX11_law)) = true := g_cF_ll (by decide +kernel)
set_option maxRecDepth 100000 in
theorem tkX11_rules : ttX11_rules.all (fun r => r.2.all (g_cE 11 false cX11_rules)) = true := g_cF_ll (by decide +kernel)
set_option maxRecDepth 100000 in
theorem tkX11_timetable : ttX11_timetable.all (fun r => r.2.all (g_cE 11 false cX11_timetable)) = true := g_cF_ll (by decide +kernel)
end Prt16f
section Prt16g
set_option maxRecDepth 100000 in
theorem tkX11_months : ttX11_months.all (fun r => r.2.all (g_cE 11 false cX11_months)) = true := g_cF_ll (by decide +kernel)
set_option maxRecDepth 100000 in
theorem tkX11_tried : ttX11_tried.all (fun r => r.2.all (g_cE 11 false cX11_tried)) = true := g_cF_ll (by decide +kernel)
set_option maxRecDepth 100000 in
theorem tkX11_gustIs : ttX11_gustIs.all (fun r => r.2.all (g_cE 11 false cX11_gustIs)) = true := g_cF_ll (by decide +kernel)
set_option maxRecDepth 100000 in
theorem tkX11_wardIs : ttX11_wardIs.all (fun r => r.2.all (g_cE 11 false cX11_wardIs)) = true := g_cF_ll (by decide +kernel)
set_option maxRecDepth 100000 in
theorem tkX11_nurseIs : ttX11_nurseIs.all (fun r => r.2.all (g_cE 11 false cX11_nurseIs)) = true := g_cF_ll (by decide +kernel)
set_option maxRecDepth 100000 in
theorem tkX11_quarrel : ttX11_quarrel.all (fun r => r.2.all (g_cE 11 false cX11_quarrel)) = true := g_cF_ll (by decide +kernel)
set_option maxRecDepth 100000 in
theorem tkX11_count : ttX11_count.all (fun r => r.2.all (g_cE 11 false cX11_count)) = true := g_cF_ll (by decide +kernel)
set_option maxRecDepth 100000 in
theorem tkX11_added : ttX11_added.all (fun r => r.2.all (g_cE 11 false cX11_added)) = true := g_cF_ll (by decide +kernel)
set_option maxRecDepth 100000 in
theorem tkX11_housed : ttX11_housed.all (fun r => r.2.all (g_cE 11 false cX11_housed)) = true := g_cF_ll (by decide +kernel)
set_option maxRecDepth 100000 in
theorem tkX11_leaving : ttX11_leaving.all (fun r => r.2.all (g_cE 11 false cX11_leaving)) = true := g_cF_ll (by decide +kernel)
set_option maxRecDepth 100000 in
theorem tkX11_letGo : ttX11_letGo.all (fun r => r.2.all (g_cE 11 false cX11_letGo)) = true := g_cF_ll (by decide +kernel)
set_option maxRecDepth 100000 in
theorem tkX11_from : ttX11_from.all (fun r => r.2.all (g_cE 11 false cX11_from)) = true := g_cF_ll (by decide +kernel)
set_option maxRecDepth 100000 in
theorem tkX11_taught : ttX11_taught.all (fun r => r.2.all (g_cE 11 false cX11_taught)) = true := g_cF_ll (by decide +kernel)
set_option maxRecDepth 100000 in
theorem tkX11_placed : ttX11_placed.all (fun r => r.2.all (g_cE 11 false cX11_placed)) = true := g_cF_ll (by decide +kernel)
set_option maxRecDepth 100000 in
theorem tkX11_fair : ttX11_fair.all (fun r => r.2.all (g_cE 11 false cX11_fair)) = true := g_cF_ll (by decide +kernel)
set_option maxRecDepth 100000 in
theorem tkX11_escaped : ttX11_escaped.all (fun r => r.2.all (g_cE 11 false cX11_escaped)) = true := g_cF_ll (by decide +kernel)
set_option maxRecDepth 100000 in
theorem tkX11_nursed : ttX11_nursed.all (fun r => r.2.all (g_cE 11 false cX11_nursed)) = true := g_cF_ll (by decide +kernel)
set_option maxRecDepth 100000 in
theorem tkX11_round : ttX11_round.all (fun r => r.2.all (g_cE 11 false cX11_round)) = true := g_cF_ll (by decide +kernel)
set_option maxRecDepth 100000 in
theorem tkX11_keep : ttX11_keep.all (fun r => r.2.all (g_cE 11 false cX11_keep)) = true := g_cF_ll (by decide +kernel)
set_option maxRecDepth 100000 in
theorem tkX11_undo : ttX11_undo.all (fun r => r.2.all (g_cE 11 false cX11_undo)) = true := g_cF_ll (by decide +kernel)
set_option maxRecDepth 100000 in
theorem tkX11_check : ttX11_check.all (fun r => r.2.all (g_cE 11 false cX11_check)) = true := g_cF_ll (by decide +kernel)
set_option maxRecDepth 100000 in
theorem tkX11_within : ttX11_within.all (fun r => r.2.all (g_cE 11 false cX11_within)) = true := g_cF_ll (by decide +kernel)
set_option maxRecDepth 100000 in
theorem tkX11_isIn : ttX11_isIn.all (fun r => r.2.all (g_cE 11 false cX11_isIn)) = true := g_cF_ll (by decide +kernel)
set_option maxRecDepth 100000 in
theorem tkX11_placeIn : ttX11_placeIn.all (fun r => r.2.all (g_cE 11 false cX11_placeIn)) = true := g_cF_ll (by decide +kernel)
set_option maxRecDepth 100000 in
theorem tkX11_chosen : ttX11_chosen.all (fun r => r.2.all (g_cE 11 false cX11_chosen)) = true := g_cF_ll (by decide +kernel)
set_option maxRecDepth 100000 in
theorem tkX11_wardAt : ttX11_wardAt.all (fun r => r.2.all (g_cE 11 false cX11_wardAt)) = true := g_cF_ll (by decide +kernel)
set_option maxRecDepth 100000 in
theorem tkX11_northward : ttX11_northward.all (fun r => r.2.all (g_cE 11 false cX11_northward)) = true := g_cF_ll (by decide +kernel)
set_option maxRecDepth 100000 in
theorem tkX11_homesLike : ttX11_homesLike.all (fun r => r.2.all (g_cE 11 false cX11_homesLike)) = true := g_cF_ll (by decide +kernel)
set_option maxRecDepth 100000 in
theorem tkX11_mostTelling : ttX11_mostTelling.all (fun r => r.2.all (g_cE 11 false cX11_mostTelling)) = true := g_cF_ll (by decide +kernel)
set_option maxRecDepth 100000 in
theorem tkX11_homesWith : ttX11_homesWith.all (fun r => r.2.all (g_cE 11 false cX11_homesWith)) = true := g_cF_ll (by decide +kernel)
set_option maxRecDepth 100000 in
theorem tkX11_sought : ttX11_sought.all (fun r => r.2.all (g_cE 11 false cX11_sought)) = true := g_cF_ll (by decide +kernel)
set_option maxRecDepth 100000 in
theorem tkX11_sightingsStand : ttX11_sightingsStand.all (fun r => r.2.all (g_cE 11 false cX11_sightingsStand)) = true := g_cF_ll (by decide +kernel)
set_option maxRecDepth 100000 in
theorem tkX11_sightingsAgree : ttX11_sightingsAgree.all (fun r => r.2.all (g_cE 11 false cX11_sightingsAgree)) = true := g_cF_ll (by decide +kernel)
set_option maxRecDepth 100000 in
theorem tkX12_init_0 : ttX12_init_0.all (g_cE 12 true cX12_init) = true := g_cF_l (by decide +kernel)
set_option maxRecDepth 100000 in
theorem tkX12_init_1 : ttX12_init_1.all (g_cE 12 true cX12_init) = true := g_cF_l (by decide +kernel)
set_option maxRecDepth 100000 in
theorem tkX12_init_2 : ttX12_init_2.all (g_cE 12 true cX12_init) = true := g_cF_l (by decide +kernel)
set_option maxRecDepth 100000 in
theorem tkX12_init_3 : ttX12_init_3.all (g_cE 12 true cX12_init) = true := g_cF_l (by decide +kernel)
set_option maxRecDepth 100000 in
theorem tkX12_init_4 : ttX12_init_4.all (g_cE 12 true cX12_init) = true := g_cF_l (by decide +kernel)
set_option maxRecDepth 100000 in
theorem tkX12_init_5 : ttX12_init_5.all (g_cE 12 true cX12_init) = true := g_cF_l (by decide +kernel)
set_option maxRecDepth 100000 in
theorem tkX12_init_6 : ttX12_init_6.all (g_cE 12 true cX12_init) = true := g_cF_l (by decide +kernel)
end Prt16g
section Prt16h
set_option maxRecDepth 100000 in
theorem tkX12_init_7 : ttX12_init_7.all (g_cE 12 true cX12_init) = true := g_cF_l (by decide +kernel)
set_option maxRecDepth 100000 in
theorem tkX12_init_8 : ttX12_init_8.all (g_cE 12 true cX12_init) = true := g_cF_l (by decide +kernel)
set_option maxRecDepth 100000 in
theorem tkX12_init_9 : ttX12_init_9.all (g_cE 12 true cX12_init) = true := g_cF_l (by decide +kernel)
set_option maxRecDepth 100000 in
theorem tkX12_init_10 : ttX12_init_10.all (g_cE 12 true cX12_init) = true := g_cF_l (by decide +kernel)
set_option maxRecDepth 100000 in
theorem tkX12_init_11 : ttX12_init_11.all (g_cE 12 true cX12_init) = true := g_cF_l (by decide +kernel)
set_option maxRecDepth 100000 in
theorem tkX12_init_12 : ttX12_init_12.all (g_cE 12 true cX12_init) = true := g_cF_l (by decide +kernel)
set_option maxRecDepth 100000 in
theorem tkX12_init_13 : ttX12_init_13.all (g_cE 12 true cX12_init) = true := g_cF_l (by decide +kernel)
set_option maxRecDepth 100000 in
theorem tkX12_init_14 : ttX12_init_14.all (g_cE 12 true cX12_init) = true := g_cF_l (by decide +kernel)
set_option maxRecDepth 100000 in
theorem tkX12_init_15 : ttX12_init_15.all (g_cE 12 true cX12_init) = true := g_cF_l (by decide +kernel)
set_option maxRecDepth 100000 in
theorem tkX12_init_16 : ttX12_init_16.all (g_cE 12 true cX12_init) = true := g_cF_l (by decide +kernel)
set_option maxRecDepth 100000 in
theorem tkX12_init_17 : ttX12_init_17.all (g_cE 12 true cX12_init) = true := g_cF_l (by decide +kernel)
set_option maxRecDepth 100000 in
theorem tkX12_init_18 : ttX12_init_18.all (g_cE 12 true cX12_init) = true := g_cF_l (by decide +kernel)
set_option maxRecDepth 100000 in
theorem tkX12_init_19 : ttX12_init_19.all (g_cE 12 true cX12_init) = true := g_cF_l (by decide +kernel)
set_option maxRecDepth 100000 in
theorem tkX12_init_20 : ttX12_init_20.all (g_cE 12 true cX12_init) = true := g_cF_l (by decide +kernel)
set_option maxRecDepth 100000 in
theorem tkX12_init_21 : ttX12_init_21.all (g_cE 12 true cX12_init) = true := g_cF_l (by decide +kernel)
set_option maxRecDepth 100000 in
theorem tkX12_init_22 : ttX12_init_22.all (g_cE 12 true cX12_init) = true := g_cF_l (by decide +kernel)
set_option maxRecDepth 100000 in
theorem tkX12_init_23 : ttX12_init_23.all (g_cE 12 true cX12_init) = true := g_cF_l (by decide +kernel)
set_option maxRecDepth 100000 in
theorem tkX12_init_24 : ttX12_init_24.all (g_cE 12 true cX12_init) = true := g_cF_l (by decide +kernel)
set_option maxRecDepth 100000 in
theorem tkX12_init_25 : ttX12_init_25.all (g_cE 12 true cX12_init) = true := g_cF_l (by decide +kernel)
set_option maxRecDepth 100000 in
theorem tkX12_init_26 : ttX12_init_26.all (g_cE 12 true cX12_init) = true := g_cF_l (by decide +kernel)
set_option maxRecDepth 100000 in
theorem tkX12_init_27 : ttX12_init_27.all (g_cE 12 true cX12_init) = true := g_cF_l (by decide +kernel)
theorem tkX12_init : ttX12_init.all (fun r => r.2.all (g_cE 12 true cX12_init)) = true := by
  unfold ttX12_init
  simp only [List.all_cons, List.all_nil, Bool.and_true, Bool.and_eq_true]
  exact ⟨tkX12_init_0, tkX12_init_1, tkX12_init_2, tkX12_init_3, tkX12_init_4, tkX12_init_5, tkX12_init_6, tkX12_init_7, tkX12_init_8, tkX12_init_9, tkX12_init_10, tkX12_init_11, tkX12_init_12, tkX12_init_13, tkX12_init_14, tkX12_init_15, tkX12_init_16, tkX12_init_17, tkX12_init_18, tkX12_init_19, tkX12_init_20, tkX12_init_21, tkX12_init_22, tkX12_init_23, tkX12_init_24, tkX12_init_25, tkX12_init_26, tkX12_init_27⟩
set_option maxRecDepth 100000 in
theorem tkX12_lies : ttX12_lies.all (fun r => r.2.all (g_cE 12 false cX12_lies)) = true := g_cF_ll (by decide +kernel)
set_option maxRecDepth 100000 in
theorem tkX12_has : ttX12_has.all (fun r => r.2.all (g_cE 12 false cX12_has)) = true := g_cF_ll (by decide +kernel)
set_option maxRecDepth 100000 in
theorem tkX12_sizeOf : ttX12_sizeOf.all (fun r => r.2.all (g_cE 12 false cX12_sizeOf)) = true := g_cF_ll (by decide +kernel)
set_option maxRecDepth 100000 in
theorem tkX12_held : ttX12_held.all (fun r => r.2.all (g_cE 12 false cX12_held)) = true := g_cF_ll (by decide +kernel)
set_option maxRecDepth 100000 in
theorem tkX12_push : ttX12_push.all (fun r => r.2.all (g_cE 12 false cX12_push)) = true := g_cF_ll (by decide +kernel)
set_option maxRecDepth 100000 in
theorem tkX12_feed : ttX12_feed.all (fun r => r.2.all (g_cE 12 false cX12_feed)) = true := g_cF_ll (by decide +kernel)
set_option maxRecDepth 100000 in
theorem tkX12_byteAt : ttX12_byteAt.all (fun r => r.2.all (g_cE 12 false cX12_byteAt)) = true := g_cF_ll (by decide +kernel)
set_option maxRecDepth 100000 in
theorem tkX12_here : ttX12_here.all (fun r => r.2.all (g_cE 12 false cX12_here)) = true := g_cF_ll (by decide +kernel)
set_option maxRecDepth 100000 in
theorem tkX12_wrongs : ttX12_wrongs.all (fun r => r.2.all (g_cE 12 false cX12_wrongs)) = true := g_cF_ll (by decide +kernel)
set_option maxRecDepth 100000 in
theorem tkX12_isGood : ttX12_isGood.all (fun r => r.2.all (g_cE 12 false cX12_isGood)) = true := g_cF_ll (by decide +kernel)
set_option maxRecDepth 100000 in
theorem tkX12_seesDigit : ttX12_seesDigit.all (fun r => r.2.all (g_cE 12 false cX12_seesDigit)) = true := g_cF_ll (by decide +kernel)
set_option maxRecDepth 100000 in
theorem tkX12_begins : ttX12_begins.all (fun r => r.2.all (g_cE 12 false cX12_begins)) = true := g_cF_ll (by decide +kernel)
set_option maxRecDepth 100000 in
theorem tkX12_emit : ttX12_emit.all (fun r => r.2.all (g_cE 12 false cX12_emit)) = true := g_cF_ll (by decide +kernel)
set_option maxRecDepth 100000 in
theorem tkX12_top : ttX12_top.all (fun r => r.2.all (g_cE 12 false cX12_top)) = true := g_cF_ll (by decide +kernel)
set_option maxRecDepth 100000 in
theorem tkX12_puts : ttX12_puts.all (fun r => r.2.all (g_cE 12 false cX12_puts)) = true := g_cF_ll (by decide +kernel)
set_option maxRecDepth 100000 in
theorem tkX12_opens : ttX12_opens.all (fun r => r.2.all (g_cE 12 false cX12_opens)) = true := g_cF_ll (by decide +kernel)
set_option maxRecDepth 100000 in
theorem tkX12_reads : ttX12_reads.all (fun r => r.2.all (g_cE 12 false cX12_reads)) = true := g_cF_ll (by decide +kernel)
set_option maxRecDepth 100000 in
theorem tkX12_isTimes : ttX12_isTimes.all (fun r => r.2.all (g_cE 12 false cX12_isTimes)) = true := g_cF_ll (by decide +kernel)
end Prt16h
