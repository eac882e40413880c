set_option maxRecDepth 100000 in
theorem ck_261 : v_C [(287, 4, ([(0, none), (1, some (0, 31)), (2, some (0, 5))], 2, 0, true))] 287 rw_261 = true := by decide +kernel
set_option maxRecDepth 100000 in
theorem ck_264 : v_C [(292, 29, ([(0, none), (1, none), (2, none), (3, some ((-2147483648), 2147483647)), (4, some (0, 12))], 4, 0, true))] 292 rw_264 = true := by decide +kernel
set_option maxRecDepth 100000 in
theorem ck_265 : v_C [] 293 rw_265 = true := by decide +kernel
set_option maxRecDepth 100000 in
theorem ck_266 : v_C [] 294 rw_266 = true := by decide +kernel
set_option maxRecDepth 100000 in
theorem ck_267 : v_C [] 295 rw_267 = true := by decide +kernel
set_option maxRecDepth 100000 in
theorem ck_268 : v_C [(296, 30, ([(0, none), (1, none), (2, some (0, 12))], 2, 0, true))] 296 rw_268 = true := by decide +kernel
set_option maxRecDepth 100000 in
theorem ck_269 : v_C [(297, 4, ([(0, none), (1, none), (2, some (0, 1023)), (3, some (0, 10))], 3, 0, true))] 297 rw_269 = true := by decide +kernel
set_option maxRecDepth 100000 in
theorem ck_270 : v_C [] 298 rw_270 = true := by decide +kernel
set_option maxRecDepth 100000 in
theorem ck_271 : v_C [(300, 5, ([(0, none), (1, none), (2, some (0, 15)), (3, none)], 2, 0, true))] 300 rw_271 = true := by decide +kernel
set_option maxRecDepth 100000 in
theorem ck_272 : v_C [(300, 5, ([(0, none), (1, none), (2, some (0, 12)), (3, none)], 2, 0, true))] 300 rw_272 = true := by decide +kernel
set_option maxRecDepth 100000 in
theorem ck_273 : v_C [(300, 5, ([(0, none), (1, none), (2, some (0, 8)), (3, none)], 2, 0, true))] 300 rw_273 = true := by decide +kernel
set_option maxRecDepth 100000 in
theorem ck_274 : v_C [(300, 5, ([(0, none), (1, none), (2, some (0, 4)), (3, none)], 2, 0, true))] 300 rw_274 = true := by decide +kernel
set_option maxRecDepth 100000 in
theorem ck_275 : v_C [(300, 5, ([(0, none), (1, none), (2, some (0, 5)), (3, none)], 2, 0, true))] 300 rw_275 = true := by decide +kernel
