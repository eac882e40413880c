set_option maxRecDepth 1000000 in
theorem qr_0 : q_go1 q_hk0 (-2147483648, -1) (-2147483648, 2147483647) (0, 0) = true := by decide +kernel
set_option maxRecDepth 1000000 in
theorem qr_1 : q_go1 q_hk0 (0, 0) (-2147483648, 2147483647) (0, 0) = true := by decide +kernel
set_option maxRecDepth 1000000 in
theorem qr_2 : q_go1 q_hk0 (1, 1) (-2147483648, 2147483647) (0, 0) = true := by decide +kernel
set_option maxRecDepth 1000000 in
theorem qr_3 : q_go1 q_hk0 (2, 2) (-2147483648, 2147483647) (0, 0) = true := by decide +kernel
set_option maxRecDepth 1000000 in
theorem qr_4 : q_go1 q_hk0 (3, 3) (-2147483648, 2147483647) (0, 0) = true := by decide +kernel
set_option maxRecDepth 1000000 in
theorem qr_5 : q_go1 q_hk0 (4, 4) (-2147483648, 2147483647) (0, 0) = true := by decide +kernel
set_option maxRecDepth 1000000 in
theorem qr_6 : q_go1 q_hk0 (5, 5) (-2147483648, 2147483647) (0, 0) = true := by decide +kernel
set_option maxRecDepth 1000000 in
theorem qr_7 : q_go1 q_hk0 (6, 6) (-2147483648, 2147483647) (0, 0) = true := by decide +kernel
set_option maxRecDepth 1000000 in
theorem qr_8 : q_go1 q_hk0 (7, 7) (-2147483648, 2147483647) (0, 0) = true := by decide +kernel
set_option maxRecDepth 1000000 in
theorem qr_9 : q_go1 q_hk0 (8, 8) (-2147483648, 2147483647) (0, 0) = true := by decide +kernel
set_option maxRecDepth 1000000 in
theorem qr_10 : q_go1 q_hk0 (9, 9) (-2147483648, 2147483647) (0, 0) = true := by decide +kernel
set_option maxRecDepth 1000000 in
theorem qr_11 : q_go1 q_hk0 (10, 10) (-2147483648, 2147483647) (0, 0) = true := by decide +kernel
set_option maxRecDepth 1000000 in
theorem qr_12 : q_go1 q_hk0 (11, 11) (-2147483648, 2147483647) (0, 0) = true := by decide +kernel
set_option maxRecDepth 1000000 in
theorem qr_13 : q_go1 q_hk0 (12, 2147483647) (-2147483648, 2147483647) (0, 0) = true := by decide +kernel
set_option maxRecDepth 1000000 in
theorem qr_14 : q_go1 q_hk0 (-2147483648, 2147483647) (-2147483648, 2147483647) (1, 1) = true := by decide +kernel
set_option maxRecDepth 1000000 in
theorem qr_15 : q_go1 q_hk0 (-2147483648, 2147483647) (-2147483648, 2147483647) (2, 2) = true := by decide +kernel
set_option maxRecDepth 1000000 in
theorem qr_16 : q_go1 q_hk0 (-2147483648, 2147483647) (-2147483648, 2147483647) (3, 3) = true := by decide +kernel
set_option maxRecDepth 1000000 in
theorem qr_17 : q_go1 q_hk0 (-2147483648, -1) (-2147483648, 2147483647) (4, 4) = true := by decide +kernel
set_option maxRecDepth 1000000 in
theorem qr_18 : q_go1 q_hk0 (0, 0) (-2147483648, 2147483647) (4, 4) = true := by decide +kernel
set_option maxRecDepth 1000000 in
theorem qr_19 : q_go1 q_hk0 (1, 1) (-2147483648, 2147483647) (4, 4) = true := by decide +kernel
set_option maxRecDepth 1000000 in
theorem qr_20 : q_go1 q_hk0 (2, 2) (-2147483648, 2147483647) (4, 4) = true := by decide +kernel
set_option maxRecDepth 1000000 in
theorem qr_21 : q_go1 q_hk0 (3, 3) (-2147483648, 2147483647) (4, 4) = true := by decide +kernel
