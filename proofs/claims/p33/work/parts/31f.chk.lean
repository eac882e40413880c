set_option maxRecDepth 100000 in
theorem ck_108 : v_C [(75, 7, ([(0, none), (1, none), (2, some (0, 240))], 2, 0, true))] 75 rw_108 = true := by decide +kernel
set_option maxRecDepth 100000 in
theorem ck_109 : v_C [(75, 7, ([(0, none), (1, none), (2, some (0, 240))], 2, 0, true))] 75 rw_109 = true := by decide +kernel
set_option maxRecDepth 100000 in
theorem ck_110 : v_C [] 76 rw_110 = true := by decide +kernel
set_option maxRecDepth 100000 in
theorem ck_111 : v_C [] 76 rw_111 = true := by decide +kernel
set_option maxRecDepth 100000 in
theorem ck_112 : v_C [] 76 rw_112 = true := by decide +kernel
set_option maxRecDepth 100000 in
theorem ck_113 : v_C [] 76 rw_113 = true := by decide +kernel
set_option maxRecDepth 100000 in
theorem ck_114 : v_C [] 76 rw_114 = true := by decide +kernel
set_option maxRecDepth 100000 in
theorem ck_115 : v_C [] 76 rw_115 = true := by decide +kernel
set_option maxRecDepth 100000 in
theorem ck_116 : v_C [] 76 rw_116 = true := by decide +kernel
set_option maxRecDepth 100000 in
theorem ck_117 : v_C [(77, 4, ([(0, none), (1, some ((-2147483648), 2147483647)), (2, some (0, 5))], 2, 0, true))] 77 rw_117 = true := by decide +kernel
set_option maxRecDepth 100000 in
theorem ck_118 : v_C [(84, 19, ([(0, none), (3, some (0, 1023)), (4, some ((-2147483648), 2147483647)), (5, none), (6, some (0, 10))], 6, 0, true))] 84 rw_118 = true := by decide +kernel
set_option maxRecDepth 100000 in
theorem ck_119 : v_C [(85, 9, ([(0, none), (1, none), (3, some (0, 1023)), (4, some (0, 10))], 4, 0, true)), (85, 19, ([(0, none), (1, none), (3, some (0, 1023)), (4, none), (5, some (0, 10))], 5, 0, true))] 85 rw_119 = true := by decide +kernel
set_option maxRecDepth 100000 in
theorem ck_120 : v_C [(86, 2, ([(0, none), (1, none), (2, none), (3, some (0, 10))], 3, 0, true))] 86 rw_120 = true := by decide +kernel
set_option maxRecDepth 100000 in
theorem ck_121 : v_C [(91, 4, ([(0, none), (1, none), (2, some (0, 4095)), (3, some (0, 12))], 3, 0, true))] 91 rw_121 = true := by decide +kernel
set_option maxRecDepth 100000 in
theorem ck_122 : v_C [(91, 4, ([(0, none), (1, none), (2, some (0, 4095)), (3, some (0, 12))], 3, 0, true))] 91 rw_122 = true := by decide +kernel
set_option maxRecDepth 100000 in
theorem ck_123 : v_C [] 93 rw_123 = true := by decide +kernel
set_option maxRecDepth 100000 in
theorem ck_124 : v_C [] 93 rw_124 = true := by decide +kernel
set_option maxRecDepth 100000 in
theorem ck_125 : v_C [] 93 rw_125 = true := by decide +kernel
set_option maxRecDepth 100000 in
theorem ck_126 : v_C [(96, 3, ([(0, none), (1, none), (2, some ((-128), 24))], 2, 0, false))] 96 rw_126 = true := by decide +kernel
set_option maxRecDepth 100000 in
theorem ck_127 : v_C [] 97 rw_127 = true := by decide +kernel
set_option maxRecDepth 100000 in
theorem ck_128 : v_C [(104, 29, ([(0, none), (1, none), (3, some ((-1), 5))], 3, 0, false))] 104 rw_128 = true := by decide +kernel
set_option maxRecDepth 100000 in
theorem ck_129 : v_C [] 106 rw_129 = true := by decide +kernel
set_option maxRecDepth 100000 in
theorem ck_130 : v_C [(106, 96, ([(0, none), (1, none), (2, none), (3, none), (4, none), (5, none), (6, none), (7, some (0, 4))], 7, 0, true))] 106 rw_130 = true := by decide +kernel
set_option maxRecDepth 100000 in
theorem ck_131 : v_C [(106, 96, ([(0, none), (1, none), (2, none), (3, none), (4, none), (5, none), (6, none), (7, some (0, 4))], 7, 0, true))] 106 rw_131 = true := by decide +kernel
set_option maxRecDepth 100000 in
theorem ck_132 : v_C [(106, 96, ([(0, none), (1, none), (2, none), (3, none), (4, none), (5, none), (6, none), (7, some (0, 4))], 7, 0, true))] 106 rw_132 = true := by decide +kernel
set_option maxRecDepth 100000 in
theorem ck_133 : v_C [(106, 96, ([(0, none), (1, none), (2, none), (3, none), (4, none), (5, none), (6, none), (7, some (0, 4))], 7, 0, true))] 106 rw_133 = true := by decide +kernel
set_option maxRecDepth 100000 in
theorem ck_134 : v_C [(106, 96, ([(0, none), (1, none), (2, none), (3, none), (4, none), (5, none), (6, none), (7, some (0, 4))], 7, 0, true))] 106 rw_134 = true := by decide +kernel
