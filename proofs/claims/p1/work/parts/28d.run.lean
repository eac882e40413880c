set_option maxRecDepth 1000000 in
theorem qr_66 : q_go1 q_hk0 (-2147483648, 2147483647) (-2147483648, 2147483647) (27, 27) = true := by decide +kernel
set_option maxRecDepth 1000000 in
theorem qr_67 : q_go1 q_hk0 (-2147483648, -1) (-2147483648, 2147483647) (28, 28) = true := by decide +kernel
set_option maxRecDepth 1000000 in
theorem qr_68 : q_go1 q_hk0 (0, 0) (-2147483648, 2147483647) (28, 28) = true := by decide +kernel
set_option maxRecDepth 1000000 in
theorem qr_69 : q_go1 q_hk0 (1, 2147483647) (-2147483648, 2147483647) (28, 28) = true := by decide +kernel
set_option maxRecDepth 1000000 in
theorem qr_70 : q_go1 q_hk0 (-2147483648, -1) (-2147483648, 2147483647) (29, 29) = true := by decide +kernel
set_option maxRecDepth 1000000 in
theorem qr_71 : q_go1 q_hk0 (0, 0) (-2147483648, 2147483647) (29, 29) = true := by decide +kernel
set_option maxRecDepth 1000000 in
theorem qr_72 : q_go1 q_hk0 (1, 2147483647) (-2147483648, 2147483647) (29, 29) = true := by decide +kernel
set_option maxRecDepth 1000000 in
theorem qr_73 : q_go1 q_hk0 (-2147483648, 2147483647) (-2147483648, 2147483647) (30, 30) = true := by decide +kernel
set_option maxRecDepth 1000000 in
theorem qr_74 : q_go1 q_hk0 (-2147483648, 2147483647) (-2147483648, 2147483647) (31, 31) = true := by decide +kernel
set_option maxRecDepth 1000000 in
theorem qr_75 : q_go1 q_hk0 (-2147483648, 2147483647) (-2147483648, 2147483647) (32, 32) = true := by decide +kernel
set_option maxRecDepth 1000000 in
theorem qr_76 : q_go1 q_hk0 (-2147483648, 2147483647) (-2147483648, 2147483647) (33, 33) = true := by decide +kernel
set_option maxRecDepth 1000000 in
theorem qr_77 : q_go1 q_hk0 (-2147483648, 2147483647) (-2147483648, 2147483647) (34, 34) = true := by decide +kernel
set_option maxRecDepth 1000000 in
theorem qr_78 : q_go1 q_hk0 (-2147483648, 2147483647) (-2147483648, 2147483647) (35, 35) = true := by decide +kernel
set_option maxRecDepth 1000000 in
theorem qr_79 : q_go1 q_hk0 (-2147483648, 2147483647) (-2147483648, 2147483647) (36, 63) = true := by decide +kernel
set_option maxRecDepth 1000000 in
theorem qs_0 : q_go0 0 = true := by decide +kernel
set_option maxRecDepth 1000000 in
theorem qs_1 : q_go0 1 = true := by decide +kernel
set_option maxRecDepth 1000000 in
theorem qs_2 : q_go0 2 = true := by decide +kernel
set_option maxRecDepth 1000000 in
theorem qs_3 : q_go0 3 = true := by decide +kernel
set_option maxRecDepth 1000000 in
theorem qs_4 : q_go0 4 = true := by decide +kernel
set_option maxRecDepth 1000000 in
theorem qs_5 : q_go0 5 = true := by decide +kernel
