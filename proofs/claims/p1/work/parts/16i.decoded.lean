set_option maxRecDepth 100000 in
theorem tkX12_count : ttX12_count.all (fun r => r.2.all (g_cE 12 false cX12_count)) = true := by decide +kernel
set_option maxRecDepth 100000 in
theorem tkJ6_bitCount_0f7a4 : ttJ6_bitCount_0f7a4.all (fun r => r.2.all (g_cE 14 false cJ6_bitCount_0f7a4)) = true := by decide +kernel
set_option maxRecDepth 100000 in
theorem tkJ7_fill_53178 : ttJ7_fill_53178.all (fun r => r.2.all (g_cE 16 false cJ7_fill_53178)) = true := by decide +kernel
