set_option maxRecDepth 100000 in
theorem ck_95 : v_C [] 73 rw_95 = true := by decide +kernel
set_option maxRecDepth 100000 in
theorem ck_96 : v_C [(74, 7, ([(0, none), (1, none), (2, some (0, 240))], 2, 0, true))] 74 rw_96 = true := by decide +kernel
set_option maxRecDepth 100000 in
theorem ck_97 : v_C [(74, 7, ([(0, none), (1, none), (2, some (0, 240))], 2, 0, true))] 74 rw_97 = true := by decide +kernel
set_option maxRecDepth 100000 in
theorem ck_98 : v_C [(74, 7, ([(0, none), (1, none), (2, some (0, 240))], 2, 0, true))] 74 rw_98 = true := by decide +kernel
set_option maxRecDepth 100000 in
theorem ck_99 : v_C [(74, 7, ([(0, none), (1, none), (2, some (0, 240))], 2, 0, true))] 74 rw_99 = true := by decide +kernel
set_option maxRecDepth 100000 in
theorem ck_100 : v_C [(74, 7, ([(0, none), (1, none), (2, some (0, 240))], 2, 0, true))] 74 rw_100 = true := by decide +kernel
set_option maxRecDepth 100000 in
theorem ck_101 : v_C [(74, 7, ([(0, none), (1, none), (2, some (0, 240))], 2, 0, true))] 74 rw_101 = true := by decide +kernel
set_option maxRecDepth 100000 in
theorem ck_102 : v_C [(74, 7, ([(0, none), (1, none), (2, some (0, 240))], 2, 0, true))] 74 rw_102 = true := by decide +kernel
set_option maxRecDepth 100000 in
theorem ck_103 : v_C [(75, 7, ([(0, none), (1, none), (2, some (0, 240))], 2, 0, true))] 75 rw_103 = true := by decide +kernel
set_option maxRecDepth 100000 in
theorem ck_104 : v_C [(75, 7, ([(0, none), (1, none), (2, some (0, 240))], 2, 0, true))] 75 rw_104 = true := by decide +kernel
set_option maxRecDepth 100000 in
theorem ck_105 : v_C [(75, 7, ([(0, none), (1, none), (2, some (0, 240))], 2, 0, true))] 75 rw_105 = true := by decide +kernel
set_option maxRecDepth 100000 in
theorem ck_106 : v_C [(75, 7, ([(0, none), (1, none), (2, some (0, 240))], 2, 0, true))] 75 rw_106 = true := by decide +kernel
set_option maxRecDepth 100000 in
theorem ck_107 : v_C [(75, 7, ([(0, none), (1, none), (2, some (0, 240))], 2, 0, true))] 75 rw_107 = true := by decide +kernel
