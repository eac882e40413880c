set_option maxRecDepth 100000 in
theorem tkX12_partOf : ttX12_partOf.all (fun r => r.2.all (g_cE 12 false cX12_partOf)) = true := by decide +kernel
set_option maxRecDepth 100000 in
theorem tkX12_added : ttX12_added.all (fun r => r.2.all (g_cE 12 false cX12_added)) = true := by decide +kernel
set_option maxRecDepth 100000 in
theorem tkX12_seed : ttX12_seed.all (fun r => r.2.all (g_cE 12 false cX12_seed)) = true := by decide +kernel
set_option maxRecDepth 100000 in
theorem tkX12_keep : ttX12_keep.all (fun r => r.2.all (g_cE 12 false cX12_keep)) = true := by decide +kernel
set_option maxRecDepth 100000 in
theorem tkX12_undo : ttX12_undo.all (fun r => r.2.all (g_cE 12 false cX12_undo)) = true := by decide +kernel
set_option maxRecDepth 100000 in
theorem tkX12_check : ttX12_check.all (fun r => r.2.all (g_cE 12 false cX12_check)) = true := by decide +kernel
set_option maxRecDepth 100000 in
theorem tkX12_toldOf : ttX12_toldOf.all (fun r => r.2.all (g_cE 12 false cX12_toldOf)) = true := by decide +kernel
set_option maxRecDepth 100000 in
theorem tkX12_count : ttX12_count.all (fun r => r.2.all (g_cE 12 false cX12_count)) = true := by decide +kernel
set_option maxRecDepth 100000 in
theorem tkJ6_bitCount_0f7a4 : ttJ6_bitCount_0f7a4.all (fun r => r.2.all (g_cE 14 false cJ6_bitCount_0f7a4)) = true := by decide +kernel
set_option maxRecDepth 100000 in
theorem tkJ7_fill_53178 : ttJ7_fill_53178.all (fun r => r.2.all (g_cE 16 false cJ7_fill_53178)) = true := by decide +kernel
