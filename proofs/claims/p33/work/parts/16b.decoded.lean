set_option maxRecDepth 100000 in
theorem tkL_law_40 : ttL_law_40.all (g_cE 13 false code) = true := by decide +kernel
set_option maxRecDepth 100000 in
theorem tkL_law_41 : ttL_law_41.all (g_cE 13 false code) = true := by decide +kernel
set_option maxRecDepth 100000 in
theorem tkL_law_42 : ttL_law_42.all (g_cE 13 false code) = true := by decide +kernel
set_option maxRecDepth 100000 in
theorem tkL_law_43 : ttL_law_43.all (g_cE 13 false code) = true := by decide +kernel
set_option maxRecDepth 100000 in
theorem tkL_law_44 : ttL_law_44.all (g_cE 13 false code) = true := by decide +kernel
set_option maxRecDepth 100000 in
theorem tkL_law_45 : ttL_law_45.all (g_cE 13 false code) = true := by decide +kernel
set_option maxRecDepth 100000 in
theorem tkL_law_46 : ttL_law_46.all (g_cE 13 false code) = true := by decide +kernel
set_option maxRecDepth 100000 in
theorem tkL_law_47 : ttL_law_47.all (g_cE 13 false code) = true := by decide +kernel
set_option maxRecDepth 100000 in
theorem tkL_law_48 : ttL_law_48.all (g_cE 13 false code) = true := by decide +kernel
set_option maxRecDepth 100000 in
theorem tkL_law_49 : ttL_law_49.all (g_cE 13 false code) = true := by decide +kernel
set_option maxRecDepth 100000 in
theorem tkL_law_50 : ttL_law_50.all (g_cE 13 false code) = true := by decide +kernel
set_option maxRecDepth 100000 in
theorem tkL_law_51 : ttL_law_51.all (g_cE 13 false code) = true := by decide +kernel
set_option maxRecDepth 100000 in
theorem tkL_law_52 : ttL_law_52.all (g_cE 13 false code) = true := by decide +kernel
set_option maxRecDepth 100000 in
theorem tkL_law_53 : ttL_law_53.all (g_cE 13 false code) = true := by decide +kernel
set_option maxRecDepth 100000 in
theorem tkL_law_54 : ttL_law_54.all (g_cE 13 false code) = true := by decide +kernel
set_option maxRecDepth 100000 in
theorem tkL_law_55 : ttL_law_55.all (g_cE 13 false code) = true := by decide +kernel
set_option maxRecDepth 100000 in
theorem tkL_law_56 : ttL_law_56.all (g_cE 13 false code) = true := by decide +kernel
set_option maxRecDepth 100000 in
theorem tkL_law_57 : ttL_law_57.all (g_cE 13 false code) = true := by decide +kernel
set_option maxRecDepth 100000 in
theorem tkL_law_58 : ttL_law_58.all (g_cE 13 false code) = true := by decide +kernel
set_option maxRecDepth 100000 in
theorem tkL_law_59 : ttL_law_59.all (g_cE 13 false code) = true := by decide +kernel
set_option maxRecDepth 100000 in
theorem tkL_law_60 : ttL_law_60.all (g_cE 13 false code) = true := by decide +kernel
set_option maxRecDepth 100000 in
theorem tkL_law_61 : ttL_law_61.all (g_cE 13 false code) = true := by decide +kernel
set_option maxRecDepth 100000 in
theorem tkL_law_62 : ttL_law_62.all (g_cE 13 false code) = true := by decide +kernel
set_option maxRecDepth 100000 in
theorem tkL_law_63 : ttL_law_63.all (g_cE 13 false code) = true := by decide +kernel
set_option maxRecDepth 100000 in
theorem tkL_law_64 : ttL_law_64.all (g_cE 13 false code) = true := by decide +kernel
set_option maxRecDepth 100000 in
theorem tkL_law_65 : ttL_law_65.all (g_cE 13 false code) = true := by decide +kernel
set_option maxRecDepth 100000 in
theorem tkL_law_66 : ttL_law_66.all (g_cE 13 false code) = true := by decide +kernel
set_option maxRecDepth 100000 in
theorem tkL_law_67 : ttL_law_67.all (g_cE 13 false code) = true := by decide +kernel
set_option maxRecDepth 100000 in
theorem tkL_law_68 : ttL_law_68.all (g_cE 13 false code) = true := by decide +kernel
set_option maxRecDepth 100000 in
theorem tkL_law_69 : ttL_law_69.all (g_cE 13 false code) = true := by decide +kernel
set_option maxRecDepth 100000 in
theorem tkL_law_70 : ttL_law_70.all (g_cE 13 false code) = true := by decide +kernel
set_option maxRecDepth 100000 in
theorem tkL_law_71 : ttL_law_71.all (g_cE 13 false code) = true := by decide +kernel
set_option maxRecDepth 100000 in
theorem tkL_law_72 : ttL_law_72.all (g_cE 13 false code) = true := by decide +kernel
set_option maxRecDepth 100000 in
theorem tkL_law_73 : ttL_law_73.all (g_cE 13 false code) = true := by decide +kernel
set_option maxRecDepth 100000 in
theorem tkL_law_74 : ttL_law_74.all (g_cE 13 false code) = true := by decide +kernel
set_option maxRecDepth 100000 in
theorem tkL_law_75 : ttL_law_75.all (g_cE 13 false code) = true := by decide +kernel
set_option maxRecDepth 100000 in
theorem tkL_law_76 : ttL_law_76.all (g_cE 13 false code) = true := by decide +kernel
set_option maxRecDepth 100000 in
theorem tkL_law_77 : ttL_law_77.all (g_cE 13 false code) = true := by decide +kernel
set_option maxRecDepth 100000 in
theorem tkL_law_78 : ttL_law_78.all (g_cE 13 false code) = true := by decide +kernel
set_option maxRecDepth 100000 in
theorem tkL_law_79 : ttL_law_79.all (g_cE 13 false code) = true := by decide +kernel
