set_option maxRecDepth 100000 in
theorem tkL_law_0 : ttL_law_0.all (g_cE 13 false code) = true := by decide +kernel
set_option maxRecDepth 100000 in
theorem tkL_law_1 : ttL_law_1.all (g_cE 13 false code) = true := by decide +kernel
set_option maxRecDepth 100000 in
theorem tkL_law_2 : ttL_law_2.all (g_cE 13 false code) = true := by decide +kernel
set_option maxRecDepth 100000 in
theorem tkL_law_3 : ttL_law_3.all (g_cE 13 false code) = true := by decide +kernel
set_option maxRecDepth 100000 in
theorem tkL_law_4 : ttL_law_4.all (g_cE 13 false code) = true := by decide +kernel
set_option maxRecDepth 100000 in
theorem tkL_law_5 : ttL_law_5.all (g_cE 13 false code) = true := by decide +kernel
set_option maxRecDepth 100000 in
theorem tkL_law_6 : ttL_law_6.all (g_cE 13 false code) = true := by decide +kernel
set_option maxRecDepth 100000 in
theorem tkL_law_7 : ttL_law_7.all (g_cE 13 false code) = true := by decide +kernel
set_option maxRecDepth 100000 in
theorem tkL_law_8 : ttL_law_8.all (g_cE 13 false code) = true := by decide +kernel
set_option maxRecDepth 100000 in
theorem tkL_law_9 : ttL_law_9.all (g_cE 13 false code) = true := by decide +kernel
set_option maxRecDepth 100000 in
theorem tkL_law_10 : ttL_law_10.all (g_cE 13 false code) = true := by decide +kernel
set_option maxRecDepth 100000 in
theorem tkL_law_11 : ttL_law_11.all (g_cE 13 false code) = true := by decide +kernel
set_option maxRecDepth 100000 in
theorem tkL_law_12 : ttL_law_12.all (g_cE 13 false code) = true := by decide +kernel
set_option maxRecDepth 100000 in
theorem tkL_law_13 : ttL_law_13.all (g_cE 13 false code) = true := by decide +kernel
set_option maxRecDepth 100000 in
theorem tkL_law_14 : ttL_law_14.all (g_cE 13 false code) = true := by decide +kernel
set_option maxRecDepth 100000 in
theorem tkL_law_15 : ttL_law_15.all (g_cE 13 false code) = true := by decide +kernel
set_option maxRecDepth 100000 in
theorem tkL_law_16 : ttL_law_16.all (g_cE 13 false code) = true := by decide +kernel
set_option maxRecDepth 100000 in
theorem tkL_law_17 : ttL_law_17.all (g_cE 13 false code) = true := by decide +kernel
set_option maxRecDepth 100000 in
theorem tkL_law_18 : ttL_law_18.all (g_cE 13 false code) = true := by decide +kernel
set_option maxRecDepth 100000 in
theorem tkL_law_19 : ttL_law_19.all (g_cE 13 false code) = true := by decide +kernel
set_option maxRecDepth 100000 in
theorem tkL_law_20 : ttL_law_20.all (g_cE 13 false code) = true := by decide +kernel
set_option maxRecDepth 100000 in
theorem tkL_law_21 : ttL_law_21.all (g_cE 13 false code) = true := by decide +kernel
set_option maxRecDepth 100000 in
theorem tkL_law_22 : ttL_law_22.all (g_cE 13 false code) = true := by decide +kernel
set_option maxRecDepth 100000 in
theorem tkL_law_23 : ttL_law_23.all (g_cE 13 false code) = true := by decide +kernel
set_option maxRecDepth 100000 in
theorem tkL_law_24 : ttL_law_24.all (g_cE 13 false code) = true := by decide +kernel
set_option maxRecDepth 100000 in
theorem tkL_law_25 : ttL_law_25.all (g_cE 13 false code) = true := by decide +kernel
set_option maxRecDepth 100000 in
theorem tkL_law_26 : ttL_law_26.all (g_cE 13 false code) = true := by decide +kernel
set_option maxRecDepth 100000 in
theorem tkL_law_27 : ttL_law_27.all (g_cE 13 false code) = true := by decide +kernel
set_option maxRecDepth 100000 in
theorem tkL_law_28 : ttL_law_28.all (g_cE 13 false code) = true := by decide +kernel
set_option maxRecDepth 100000 in
theorem tkL_law_29 : ttL_law_29.all (g_cE 13 false code) = true := by decide +kernel
set_option maxRecDepth 100000 in
theorem tkL_law_30 : ttL_law_30.all (g_cE 13 false code) = true := by decide +kernel
set_option maxRecDepth 100000 in
theorem tkL_law_31 : ttL_law_31.all (g_cE 13 false code) = true := by decide +kernel
set_option maxRecDepth 100000 in
theorem tkL_law_32 : ttL_law_32.all (g_cE 13 false code) = true := by decide +kernel
set_option maxRecDepth 100000 in
theorem tkL_law_33 : ttL_law_33.all (g_cE 13 false code) = true := by decide +kernel
set_option maxRecDepth 100000 in
theorem tkL_law_34 : ttL_law_34.all (g_cE 13 false code) = true := by decide +kernel
set_option maxRecDepth 100000 in
theorem tkL_law_35 : ttL_law_35.all (g_cE 13 false code) = true := by decide +kernel
set_option maxRecDepth 100000 in
theorem tkL_law_36 : ttL_law_36.all (g_cE 13 false code) = true := by decide +kernel
set_option maxRecDepth 100000 in
theorem tkL_law_37 : ttL_law_37.all (g_cE 13 false code) = true := by decide +kernel
set_option maxRecDepth 100000 in
theorem tkL_law_38 : ttL_law_38.all (g_cE 13 false code) = true := by decide +kernel
set_option maxRecDepth 100000 in
theorem tkL_law_39 : ttL_law_39.all (g_cE 13 false code) = true := by decide +kernel
