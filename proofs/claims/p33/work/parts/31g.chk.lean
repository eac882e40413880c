set_option maxRecDepth 100000 in
theorem ck_135 : v_C [(106, 96, ([(0, none), (1, none), (2, none), (3, none), (4, none), (5, none), (6, none), (7, some (0, 4))], 7, 0, true))] 106 rw_135 = true := by decide +kernel
set_option maxRecDepth 100000 in
theorem ck_136 : v_C [(108, 2, ([(0, none), (1, none), (2, none), (3, some (0, 5))], 3, 0, true))] 108 rw_136 = true := by decide +kernel
set_option maxRecDepth 100000 in
theorem ck_137 : v_C [] 109 rw_137 = true := by decide +kernel
set_option maxRecDepth 100000 in
theorem ck_138 : v_C [] 111 rw_138 = true := by decide +kernel
set_option maxRecDepth 100000 in
theorem ck_139 : v_C [] 112 rw_139 = true := by decide +kernel
set_option maxRecDepth 100000 in
theorem ck_140 : v_C [] 113 rw_140 = true := by decide +kernel
set_option maxRecDepth 100000 in
theorem ck_141 : v_C [] 114 rw_141 = true := by decide +kernel
set_option maxRecDepth 100000 in
theorem ck_142 : v_C [] 115 rw_142 = true := by decide +kernel
set_option maxRecDepth 100000 in
theorem ck_143 : v_C [] 116 rw_143 = true := by decide +kernel
set_option maxRecDepth 100000 in
theorem ck_144 : v_C [] 117 rw_144 = true := by decide +kernel
set_option maxRecDepth 100000 in
theorem ck_145 : v_C [] 118 rw_145 = true := by decide +kernel
set_option maxRecDepth 100000 in
theorem ck_146 : v_C [] 119 rw_146 = true := by decide +kernel
set_option maxRecDepth 100000 in
theorem ck_147 : v_C [] 120 rw_147 = true := by decide +kernel
set_option maxRecDepth 100000 in
theorem ck_148 : v_C [] 121 rw_148 = true := by decide +kernel
set_option maxRecDepth 100000 in
theorem ck_149 : v_C [] 122 rw_149 = true := by decide +kernel
set_option maxRecDepth 100000 in
theorem ck_150 : v_C [] 123 rw_150 = true := by decide +kernel
set_option maxRecDepth 100000 in
theorem ck_151 : v_C [] 124 rw_151 = true := by decide +kernel
set_option maxRecDepth 100000 in
theorem ck_152 : v_C [] 125 rw_152 = true := by decide +kernel
set_option maxRecDepth 100000 in
theorem ck_153 : v_C [] 126 rw_153 = true := by decide +kernel
set_option maxRecDepth 100000 in
theorem ck_154 : v_C [] 127 rw_154 = true := by decide +kernel
set_option maxRecDepth 100000 in
theorem ck_155 : v_C [] 128 rw_155 = true := by decide +kernel
set_option maxRecDepth 100000 in
theorem ck_156 : v_C [] 129 rw_156 = true := by decide +kernel
set_option maxRecDepth 100000 in
theorem ck_157 : v_C [] 130 rw_157 = true := by decide +kernel
set_option maxRecDepth 100000 in
theorem ck_158 : v_C [] 131 rw_158 = true := by decide +kernel
set_option maxRecDepth 100000 in
theorem ck_159 : v_C [] 132 rw_159 = true := by decide +kernel
set_option maxRecDepth 100000 in
theorem ck_160 : v_C [(133, 24, ([(0, none), (1, none), (2, none), (3, some ((-2147483648), 2147483647)), (4, some (0, 12))], 4, 0, true))] 133 rw_160 = true := by decide +kernel
set_option maxRecDepth 100000 in
theorem ck_161 : v_C [] 134 rw_161 = true := by decide +kernel
set_option maxRecDepth 100000 in
theorem ck_162 : v_C [] 135 rw_162 = true := by decide +kernel
set_option maxRecDepth 100000 in
theorem ck_163 : v_C [(136, 29, ([(0, none), (1, none), (2, some (0, 4095)), (3, some (0, 12))], 3, 0, true))] 136 rw_163 = true := by decide +kernel
set_option maxRecDepth 100000 in
theorem ck_164 : v_C [] 137 rw_164 = true := by decide +kernel
set_option maxRecDepth 100000 in
theorem ck_165 : v_C [] 138 rw_165 = true := by decide +kernel
set_option maxRecDepth 100000 in
theorem ck_166 : v_C [] 139 rw_166 = true := by decide +kernel
set_option maxRecDepth 100000 in
theorem ck_167 : v_C [] 140 rw_167 = true := by decide +kernel
set_option maxRecDepth 100000 in
theorem ck_168 : v_C [] 141 rw_168 = true := by decide +kernel
set_option maxRecDepth 100000 in
theorem ck_169 : v_C [] 142 rw_169 = true := by decide +kernel
set_option maxRecDepth 100000 in
theorem ck_170 : v_C [] 143 rw_170 = true := by decide +kernel
set_option maxRecDepth 100000 in
theorem ck_171 : v_C [] 144 rw_171 = true := by decide +kernel
set_option maxRecDepth 100000 in
theorem ck_172 : v_C [(145, 22, ([(0, none), (1, some (0, 6))], 1, 0, true))] 145 rw_172 = true := by decide +kernel
