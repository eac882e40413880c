set_option maxRecDepth 100000 in
theorem ck_0 : v_C [(2, 29, ([(0, none), (1, none), (2, none), (3, some (0, 60))], 3, 0, true))] 2 rw_0 = true := by decide +kernel
set_option maxRecDepth 100000 in
theorem ck_1 : v_C [(2, 29, ([(0, none), (1, none), (2, none), (3, some (0, 60))], 3, 0, true))] 2 rw_1 = true := by decide +kernel
set_option maxRecDepth 100000 in
theorem ck_2 : v_C [(3, 7, ([(0, none), (1, none), (2, some (0, 6))], 2, 0, true)), (3, 114, ([(0, none), (1, none), (2, some (0, 6))], 2, 0, true))] 3 rw_2 = true := by decide +kernel
set_option maxRecDepth 100000 in
theorem ck_3 : v_C [(3, 7, ([(0, none), (1, none), (2, some (0, 6))], 2, 0, true)), (3, 114, ([(0, none), (1, none), (2, some (0, 6))], 2, 0, true))] 3 rw_3 = true := by decide +kernel
