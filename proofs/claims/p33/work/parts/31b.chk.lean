set_option maxRecDepth 100000 in
theorem ck_4 : v_C [(4, 26, ([(0, none), (1, none), (3, some (0, 12))], 3, 0, true))] 4 rw_4 = true := by decide +kernel
set_option maxRecDepth 100000 in
theorem ck_5 : v_C [(4, 26, ([(0, none), (1, none), (3, some (0, 12))], 3, 0, true))] 4 rw_5 = true := by decide +kernel
set_option maxRecDepth 100000 in
theorem ck_6 : v_C [(5, 3, ([(0, none), (1, none), (2, none), (3, none), (4, some (0, 12))], 4, 0, true))] 5 rw_6 = true := by decide +kernel
set_option maxRecDepth 100000 in
theorem ck_7 : v_C [(5, 3, ([(0, none), (1, none), (2, none), (3, none), (4, some (0, 12))], 4, 0, true))] 5 rw_7 = true := by decide +kernel
set_option maxRecDepth 100000 in
theorem ck_8 : v_C [(6, 14, ([(0, none), (1, none), (2, none), (3, none), (4, some (0, 12))], 4, 0, true))] 6 rw_8 = true := by decide +kernel
set_option maxRecDepth 100000 in
theorem ck_9 : v_C [(6, 14, ([(0, none), (1, none), (2, none), (3, none), (4, some (0, 12))], 4, 0, true))] 6 rw_9 = true := by decide +kernel
set_option maxRecDepth 100000 in
theorem ck_10 : v_C [(7, 2, ([(0, none), (1, none), (2, some (0, 12))], 2, 0, true))] 7 rw_10 = true := by decide +kernel
set_option maxRecDepth 100000 in
theorem ck_11 : v_C [(7, 2, ([(0, none), (1, none), (2, some (0, 12))], 2, 0, true))] 7 rw_11 = true := by decide +kernel
set_option maxRecDepth 100000 in
theorem ck_12 : v_C [(8, 2, ([(0, none), (1, none), (2, some (0, 12))], 2, 0, true)), (8, 12, ([(0, none), (1, none), (2, none), (3, some (1, 12))], 3, 0, true))] 8 rw_12 = true := by decide +kernel
set_option maxRecDepth 100000 in
theorem ck_13 : v_C [(8, 2, ([(0, none), (1, none), (2, some (0, 12))], 2, 0, true)), (8, 12, ([(0, none), (1, none), (2, none), (3, some (1, 12))], 3, 0, true))] 8 rw_13 = true := by decide +kernel
set_option maxRecDepth 100000 in
theorem ck_14 : v_C [(9, 2, ([(1, none), (2, some (0, 5))], 2, 0, true))] 9 rw_14 = true := by decide +kernel
set_option maxRecDepth 100000 in
theorem ck_15 : v_C [(9, 2, ([(1, none), (2, some (0, 5))], 2, 0, true))] 9 rw_15 = true := by decide +kernel
set_option maxRecDepth 100000 in
theorem ck_16 : v_C [(11, 9, ([(0, none), (1, none), (2, some ((-2), 15)), (3, some ((-2), 5)), (4, some (0, 6))], 4, 0, true))] 11 rw_16 = true := by decide +kernel
set_option maxRecDepth 100000 in
theorem ck_17 : v_C [(11, 9, ([(0, none), (1, none), (2, some ((-2), 15)), (3, some ((-2), 5)), (4, some (0, 6))], 4, 0, true))] 11 rw_17 = true := by decide +kernel
set_option maxRecDepth 100000 in
theorem ck_18 : v_C [(19, 8, ([(0, none), (2, none), (3, some (0, 32)), (4, some ((-2147483648), 2147483647)), (5, some (0, 256))], 5, 0, true))] 19 rw_18 = true := by decide +kernel
set_option maxRecDepth 100000 in
theorem ck_19 : v_C [(19, 8, ([(0, none), (2, none), (3, some (0, 32)), (4, some ((-2147483648), 2147483647)), (5, some (0, 256))], 5, 0, true))] 19 rw_19 = true := by decide +kernel
set_option maxRecDepth 100000 in
theorem ck_20 : v_C [(19, 8, ([(0, none), (2, none), (3, some (0, 32)), (4, some ((-2147483648), 2147483647)), (5, some (0, 256))], 5, 0, true))] 19 rw_20 = true := by decide +kernel
set_option maxRecDepth 100000 in
theorem ck_21 : v_C [] 20 rw_21 = true := by decide +kernel
set_option maxRecDepth 100000 in
theorem ck_22 : v_C [] 21 rw_22 = true := by decide +kernel
set_option maxRecDepth 100000 in
theorem ck_23 : v_C [(23, 12, ([(0, none), (1, none), (3, none), (4, some ((-2147483648), 2147483647)), (5, some ((-2147483648), 2147483647)), (6, some (0, 5))], 6, 0, true))] 23 rw_23 = true := by decide +kernel
set_option maxRecDepth 100000 in
theorem ck_24 : v_C [(24, 21, ([(0, none), (1, none), (2, none), (3, some ((-2147483648), 2147483647)), (4, some (0, 12))], 4, 0, true))] 24 rw_24 = true := by decide +kernel
set_option maxRecDepth 100000 in
theorem ck_25 : v_C [(25, 5, ([(0, none), (1, none), (2, none), (3, some ((-2147483648), 2147483647)), (4, some (0, 12))], 4, 0, true)), (25, 15, ([(0, none), (1, none), (2, none), (3, some ((-2147483648), 2147483647)), (4, none), (5, some (0, 5))], 5, 0, true))] 25 rw_25 = true := by decide +kernel
set_option maxRecDepth 100000 in
theorem ck_26 : v_C [(26, 4, ([(0, none), (1, none), (2, some ((-1), 4)), (3, some (0, 5))], 3, 0, true))] 26 rw_26 = true := by decide +kernel
set_option maxRecDepth 100000 in
theorem ck_27 : v_C [(27, 6, ([(0, none), (1, none), (2, none), (3, none), (4, some ((-1), 11)), (5, some (0, 12))], 5, 0, true))] 27 rw_27 = true := by decide +kernel
set_option maxRecDepth 100000 in
theorem ck_28 : v_C [] 29 rw_28 = true := by decide +kernel
set_option maxRecDepth 100000 in
theorem ck_29 : v_C [(39, 8, ([(0, none), (3, some (0, 16))], 3, 0, true))] 39 rw_29 = true := by decide +kernel
set_option maxRecDepth 100000 in
theorem ck_30 : v_C [(39, 8, ([(0, none), (3, some (0, 16))], 3, 0, true))] 39 rw_30 = true := by decide +kernel
set_option maxRecDepth 100000 in
theorem ck_31 : v_C [] 40 rw_31 = true := by decide +kernel
set_option maxRecDepth 100000 in
theorem ck_32 : v_C [] 40 rw_32 = true := by decide +kernel
set_option maxRecDepth 100000 in
theorem ck_33 : v_C [(42, 90, ([(0, none), (1, none), (3, none), (5, some (0, 12))], 5, 0, true))] 42 rw_33 = true := by decide +kernel
set_option maxRecDepth 100000 in
theorem ck_34 : v_C [(42, 90, ([(0, none), (1, none), (3, none), (5, some (0, 12))], 5, 0, true))] 42 rw_34 = true := by decide +kernel
