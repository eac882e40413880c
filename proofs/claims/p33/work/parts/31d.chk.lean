set_option maxRecDepth 100000 in
theorem ck_71 : v_C [] 70 rw_71 = true := by decide +kernel
set_option maxRecDepth 100000 in
theorem ck_72 : v_C [] 70 rw_72 = true := by decide +kernel
set_option maxRecDepth 100000 in
theorem ck_73 : v_C [] 70 rw_73 = true := by decide +kernel
set_option maxRecDepth 100000 in
theorem ck_74 : v_C [] 70 rw_74 = true := by decide +kernel
set_option maxRecDepth 100000 in
theorem ck_75 : v_C [] 70 rw_75 = true := by decide +kernel
set_option maxRecDepth 100000 in
theorem ck_76 : v_C [] 70 rw_76 = true := by decide +kernel
set_option maxRecDepth 100000 in
theorem ck_77 : v_C [] 70 rw_77 = true := by decide +kernel
set_option maxRecDepth 100000 in
theorem ck_78 : v_C [(71, 7, ([(0, none), (1, none), (2, some (0, 240))], 2, 0, true))] 71 rw_78 = true := by decide +kernel
set_option maxRecDepth 100000 in
theorem ck_79 : v_C [(71, 7, ([(0, none), (1, none), (2, some (0, 240))], 2, 0, true))] 71 rw_79 = true := by decide +kernel
set_option maxRecDepth 100000 in
theorem ck_80 : v_C [(71, 7, ([(0, none), (1, none), (2, some (0, 240))], 2, 0, true))] 71 rw_80 = true := by decide +kernel
set_option maxRecDepth 100000 in
theorem ck_81 : v_C [(71, 7, ([(0, none), (1, none), (2, some (0, 240))], 2, 0, true))] 71 rw_81 = true := by decide +kernel
set_option maxRecDepth 100000 in
theorem ck_82 : v_C [(71, 7, ([(0, none), (1, none), (2, some (0, 240))], 2, 0, true))] 71 rw_82 = true := by decide +kernel
set_option maxRecDepth 100000 in
theorem ck_83 : v_C [(71, 7, ([(0, none), (1, none), (2, some (0, 240))], 2, 0, true))] 71 rw_83 = true := by decide +kernel
set_option maxRecDepth 100000 in
theorem ck_84 : v_C [(72, 7, ([(0, none), (1, none), (2, some (0, 240))], 2, 0, true))] 72 rw_84 = true := by decide +kernel
set_option maxRecDepth 100000 in
theorem ck_85 : v_C [(72, 7, ([(0, none), (1, none), (2, some (0, 240))], 2, 0, true))] 72 rw_85 = true := by decide +kernel
set_option maxRecDepth 100000 in
theorem ck_86 : v_C [(72, 7, ([(0, none), (1, none), (2, some (0, 240))], 2, 0, true))] 72 rw_86 = true := by decide +kernel
set_option maxRecDepth 100000 in
theorem ck_87 : v_C [(72, 7, ([(0, none), (1, none), (2, some (0, 240))], 2, 0, true))] 72 rw_87 = true := by decide +kernel
set_option maxRecDepth 100000 in
theorem ck_88 : v_C [(72, 7, ([(0, none), (1, none), (2, some (0, 240))], 2, 0, true))] 72 rw_88 = true := by decide +kernel
set_option maxRecDepth 100000 in
theorem ck_89 : v_C [(72, 7, ([(0, none), (1, none), (2, some (0, 240))], 2, 0, true))] 72 rw_89 = true := by decide +kernel
set_option maxRecDepth 100000 in
theorem ck_90 : v_C [] 73 rw_90 = true := by decide +kernel
set_option maxRecDepth 100000 in
theorem ck_91 : v_C [] 73 rw_91 = true := by decide +kernel
set_option maxRecDepth 100000 in
theorem ck_92 : v_C [] 73 rw_92 = true := by decide +kernel
set_option maxRecDepth 100000 in
theorem ck_93 : v_C [] 73 rw_93 = true := by decide +kernel
set_option maxRecDepth 100000 in
theorem ck_94 : v_C [] 73 rw_94 = true := by decide +kernel
