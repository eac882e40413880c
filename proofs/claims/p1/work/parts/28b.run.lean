set_option maxRecDepth 1000000 in
theorem qr_22 : q_go1 q_hk0 (4, 4) (-2147483648, 2147483647) (4, 4) = true := by decide +kernel
set_option maxRecDepth 1000000 in
theorem qr_23 : q_go1 q_hk0 (5, 5) (-2147483648, 2147483647) (4, 4) = true := by decide +kernel
set_option maxRecDepth 1000000 in
theorem qr_24 : q_go1 q_hk0 (6, 2147483647) (-2147483648, 2147483647) (4, 4) = true := by decide +kernel
set_option maxRecDepth 1000000 in
theorem qr_25 : q_go1 q_hk0 (-2147483648, 2147483647) (-2147483648, 2147483647) (5, 5) = true := by decide +kernel
set_option maxRecDepth 1000000 in
theorem qr_26 : q_go1 q_hk0 (-2147483648, 2147483647) (-2147483648, -1) (6, 6) = true := by decide +kernel
set_option maxRecDepth 1000000 in
theorem qr_27 : q_go1 q_hk0 (-2147483648, 2147483647) (0, 0) (6, 6) = true := by decide +kernel
set_option maxRecDepth 1000000 in
theorem qr_28 : q_go1 q_hk0 (-2147483648, 2147483647) (1, 1022) (6, 6) = true := by decide +kernel
set_option maxRecDepth 1000000 in
theorem qr_29 : q_go1 q_hk0 (-2147483648, 2147483647) (1023, 1023) (6, 6) = true := by decide +kernel
set_option maxRecDepth 1000000 in
theorem qr_30 : q_go1 q_hk0 (-2147483648, 2147483647) (1024, 2147483647) (6, 6) = true := by decide +kernel
set_option maxRecDepth 1000000 in
theorem qr_31 : q_go1 q_hk0 (-2147483648, 2147483647) (-2147483648, 2147483647) (7, 7) = true := by decide +kernel
set_option maxRecDepth 1000000 in
theorem qr_32 : q_go1 q_hk0 (-2147483648, 2147483647) (-2147483648, 2147483647) (8, 8) = true := by decide +kernel
set_option maxRecDepth 1000000 in
theorem qr_33 : q_go1 q_hk0 (-2147483648, 2147483647) (-2147483648, 2147483647) (9, 9) = true := by decide +kernel
set_option maxRecDepth 1000000 in
theorem qr_34 : q_go1 q_hk0 (-2147483648, 2147483647) (-2147483648, 2147483647) (10, 10) = true := by decide +kernel
set_option maxRecDepth 1000000 in
theorem qr_35 : q_go1 q_hk0 (-2147483648, 2147483647) (-2147483648, 2147483647) (13, 13) = true := by decide +kernel
set_option maxRecDepth 1000000 in
theorem qr_36 : q_go1 q_hk0 (-2147483648, -1) (-2147483648, 2147483647) (14, 14) = true := by decide +kernel
set_option maxRecDepth 1000000 in
theorem qr_37 : q_go1 q_hk0 (0, 0) (-2147483648, 2147483647) (14, 14) = true := by decide +kernel
set_option maxRecDepth 1000000 in
theorem qr_38 : q_go1 q_hk0 (1, 1) (-2147483648, 2147483647) (14, 14) = true := by decide +kernel
set_option maxRecDepth 1000000 in
theorem qr_39 : q_go1 q_hk0 (2, 2) (-2147483648, 2147483647) (14, 14) = true := by decide +kernel
set_option maxRecDepth 1000000 in
theorem qr_40 : q_go1 q_hk0 (3, 3) (-2147483648, 2147483647) (14, 14) = true := by decide +kernel
set_option maxRecDepth 1000000 in
theorem qr_41 : q_go1 q_hk0 (4, 4) (-2147483648, 2147483647) (14, 14) = true := by decide +kernel
set_option maxRecDepth 1000000 in
theorem qr_42 : q_go1 q_hk0 (5, 5) (-2147483648, 2147483647) (14, 14) = true := by decide +kernel
set_option maxRecDepth 1000000 in
theorem qr_43 : q_go1 q_hk0 (6, 2147483647) (-2147483648, 2147483647) (14, 14) = true := by decide +kernel
