set_option maxRecDepth 100000 in
theorem ck_35 : v_C [(43, 2, ([(0, none), (1, none), (2, none), (3, some (0, 16))], 3, 0, true))] 43 rw_35 = true := by decide +kernel
set_option maxRecDepth 100000 in
theorem ck_36 : v_C [(44, 2, ([(0, none), (1, none), (2, some (0, 16))], 2, 0, true))] 44 rw_36 = true := by decide +kernel
set_option maxRecDepth 100000 in
theorem ck_37 : v_C [(46, 32, ([(0, none), (4, some (0, 8))], 4, 0, true))] 46 rw_37 = true := by decide +kernel
set_option maxRecDepth 100000 in
theorem ck_38 : v_C [(47, 27, ([(0, none), (1, none), (4, some (0, 8))], 4, 0, true)), (47, 46, ([(0, none), (1, none), (4, none), (5, some (0, 8))], 5, 0, true))] 47 rw_38 = true := by decide +kernel
set_option maxRecDepth 100000 in
theorem ck_39 : v_C [(49, 29, ([(0, none), (3, none), (4, some ((-1), 255))], 4, 0, false)), (49, 37, ([(0, none), (3, none), (4, none), (5, some (0, 8))], 5, 0, true))] 49 rw_39 = true := by decide +kernel
set_option maxRecDepth 100000 in
theorem ck_40 : v_C [(51, 4, ([(0, none), (1, none), (2, some (0, 8)), (3, some (0, 12))], 3, 0, true))] 51 rw_40 = true := by decide +kernel
set_option maxRecDepth 100000 in
theorem ck_41 : v_C [(51, 4, ([(0, none), (1, none), (2, some (0, 6)), (3, some (0, 12))], 3, 0, true))] 51 rw_41 = true := by decide +kernel
set_option maxRecDepth 100000 in
theorem ck_42 : v_C [(51, 4, ([(0, none), (1, none), (2, some (0, 8)), (3, some (0, 12))], 3, 0, true))] 51 rw_42 = true := by decide +kernel
set_option maxRecDepth 100000 in
theorem ck_43 : v_C [(52, 10, ([(0, none), (1, none), (2, some (0, 8))], 2, 0, true)), (52, 28, ([(0, none), (1, none), (2, none), (3, some (1, 8))], 3, 0, true))] 52 rw_43 = true := by decide +kernel
set_option maxRecDepth 100000 in
theorem ck_44 : v_C [] 53 rw_44 = true := by decide +kernel
set_option maxRecDepth 100000 in
theorem ck_45 : v_C [(53, 31, ([(0, none), (1, none), (2, none), (3, some (0, 8))], 3, 0, true))] 53 rw_45 = true := by decide +kernel
set_option maxRecDepth 100000 in
theorem ck_46 : v_C [(53, 31, ([(0, none), (1, none), (2, none), (3, some (0, 8))], 3, 0, true))] 53 rw_46 = true := by decide +kernel
set_option maxRecDepth 100000 in
theorem ck_47 : v_C [(53, 31, ([(0, none), (1, none), (2, none), (3, some (0, 8))], 3, 0, true))] 53 rw_47 = true := by decide +kernel
set_option maxRecDepth 100000 in
theorem ck_48 : v_C [(53, 31, ([(0, none), (1, none), (2, none), (3, some (0, 8))], 3, 0, true))] 53 rw_48 = true := by decide +kernel
set_option maxRecDepth 100000 in
theorem ck_49 : v_C [(53, 31, ([(0, none), (1, none), (2, none), (3, some (0, 8))], 3, 0, true))] 53 rw_49 = true := by decide +kernel
set_option maxRecDepth 100000 in
theorem ck_50 : v_C [(53, 31, ([(0, none), (1, none), (2, none), (3, some (0, 8))], 3, 0, true))] 53 rw_50 = true := by decide +kernel
set_option maxRecDepth 100000 in
theorem ck_51 : v_C [(53, 31, ([(0, none), (1, none), (2, none), (3, some (0, 8))], 3, 0, true))] 53 rw_51 = true := by decide +kernel
set_option maxRecDepth 100000 in
theorem ck_52 : v_C [(53, 31, ([(0, none), (1, none), (2, none), (3, some (0, 8))], 3, 0, true))] 53 rw_52 = true := by decide +kernel
set_option maxRecDepth 100000 in
theorem ck_53 : v_C [] 54 rw_53 = true := by decide +kernel
set_option maxRecDepth 100000 in
theorem ck_54 : v_C [(54, 32, ([(0, none), (1, none), (2, none), (3, none), (4, some (0, 8))], 4, 0, true))] 54 rw_54 = true := by decide +kernel
set_option maxRecDepth 100000 in
theorem ck_55 : v_C [(54, 32, ([(0, none), (1, none), (2, none), (3, none), (4, some (0, 8))], 4, 0, true))] 54 rw_55 = true := by decide +kernel
set_option maxRecDepth 100000 in
theorem ck_56 : v_C [(54, 32, ([(0, none), (1, none), (2, none), (3, none), (4, some (0, 8))], 4, 0, true))] 54 rw_56 = true := by decide +kernel
set_option maxRecDepth 100000 in
theorem ck_57 : v_C [(54, 32, ([(0, none), (1, none), (2, none), (3, none), (4, some (0, 8))], 4, 0, true))] 54 rw_57 = true := by decide +kernel
set_option maxRecDepth 100000 in
theorem ck_58 : v_C [(54, 32, ([(0, none), (1, none), (2, none), (3, none), (4, some (0, 8))], 4, 0, true))] 54 rw_58 = true := by decide +kernel
set_option maxRecDepth 100000 in
theorem ck_59 : v_C [(54, 32, ([(0, none), (1, none), (2, none), (3, none), (4, some (0, 8))], 4, 0, true))] 54 rw_59 = true := by decide +kernel
set_option maxRecDepth 100000 in
theorem ck_60 : v_C [(54, 32, ([(0, none), (1, none), (2, none), (3, none), (4, some (0, 8))], 4, 0, true))] 54 rw_60 = true := by decide +kernel
set_option maxRecDepth 100000 in
theorem ck_61 : v_C [(54, 32, ([(0, none), (1, none), (2, none), (3, none), (4, some (0, 8))], 4, 0, true))] 54 rw_61 = true := by decide +kernel
set_option maxRecDepth 100000 in
theorem ck_62 : v_C [(56, 30, ([(0, none), (1, none), (2, none), (4, some ((-2147483648), 2147483647)), (5, some (1, 8))], 5, 0, true))] 56 rw_62 = true := by decide +kernel
set_option maxRecDepth 100000 in
theorem ck_63 : v_C [(57, 13, ([(0, none), (1, some (1, 255)), (2, some (0, 7)), (3, some (1, 8))], 3, 0, true))] 57 rw_63 = true := by decide +kernel
set_option maxRecDepth 100000 in
theorem ck_64 : v_C [(58, 2, ([(0, none), (1, none), (2, none), (3, some (1, 8))], 3, 0, true))] 58 rw_64 = true := by decide +kernel
set_option maxRecDepth 100000 in
theorem ck_65 : v_C [(60, 7, ([(0, none), (2, none), (3, some (0, 240))], 3, 0, true))] 60 rw_65 = true := by decide +kernel
set_option maxRecDepth 100000 in
theorem ck_67 : v_C [] 63 rw_67 = true := by decide +kernel
set_option maxRecDepth 100000 in
theorem ck_68 : v_C [] 64 rw_68 = true := by decide +kernel
set_option maxRecDepth 100000 in
theorem ck_69 : v_C [] 65 rw_69 = true := by decide +kernel
set_option maxRecDepth 100000 in
theorem ck_70 : v_C [] 67 rw_70 = true := by decide +kernel
