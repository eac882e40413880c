set_option maxRecDepth 1000000 in
theorem qr_44 : q_go1 q_hk0 (-2147483648, 2147483647) (-2147483648, 2147483647) (15, 15) = true := by decide +kernel
set_option maxRecDepth 1000000 in
theorem qr_45 : q_go1 q_hk0 (-2147483648, 2147483647) (-2147483648, 2147483647) (16, 16) = true := by decide +kernel
set_option maxRecDepth 1000000 in
theorem qr_46 : q_go1 q_hk0 (-2147483648, -1) (-2147483648, 2147483647) (17, 17) = true := by decide +kernel
set_option maxRecDepth 1000000 in
theorem qr_47 : q_go1 q_hk0 (0, 0) (-2147483648, 2147483647) (17, 17) = true := by decide +kernel
set_option maxRecDepth 1000000 in
theorem qr_48 : q_go1 q_hk0 (1, 2147483647) (-2147483648, 2147483647) (17, 17) = true := by decide +kernel
set_option maxRecDepth 1000000 in
theorem qr_49 : q_go1 q_hk0 (-2147483648, 2147483647) (-2147483648, 2147483647) (18, 18) = true := by decide +kernel
set_option maxRecDepth 1000000 in
theorem qr_50 : q_go1 q_hk0 (-2147483648, -1) (-2147483648, 2147483647) (19, 19) = true := by decide +kernel
set_option maxRecDepth 1000000 in
theorem qr_51 : q_go1 q_hk0 (0, 0) (-2147483648, 2147483647) (19, 19) = true := by decide +kernel
set_option maxRecDepth 1000000 in
theorem qr_52 : q_go1 q_hk0 (1, 2147483647) (-2147483648, 2147483647) (19, 19) = true := by decide +kernel
set_option maxRecDepth 1000000 in
theorem qr_53 : q_go1 q_hk0 (-2147483648, -1) (-2147483648, 2147483647) (20, 20) = true := by decide +kernel
set_option maxRecDepth 1000000 in
theorem qr_54 : q_go1 q_hk0 (0, 0) (-2147483648, 2147483647) (20, 20) = true := by decide +kernel
set_option maxRecDepth 1000000 in
theorem qr_55 : q_go1 q_hk0 (1, 2147483647) (-2147483648, 2147483647) (20, 20) = true := by decide +kernel
set_option maxRecDepth 1000000 in
theorem qr_56 : q_go1 q_hk0 (-2147483648, 2147483647) (-2147483648, 2147483647) (21, 21) = true := by decide +kernel
set_option maxRecDepth 1000000 in
theorem qr_57 : q_go1 q_hk0 (-2147483648, 2147483647) (-2147483648, 2147483647) (22, 22) = true := by decide +kernel
set_option maxRecDepth 1000000 in
theorem qr_58 : q_go1 q_hk0 (-2147483648, 2147483647) (-2147483648, 2147483647) (23, 23) = true := by decide +kernel
set_option maxRecDepth 1000000 in
theorem qr_59 : q_go1 q_hk0 (-2147483648, 2147483647) (-2147483648, 2147483647) (24, 24) = true := by decide +kernel
set_option maxRecDepth 1000000 in
theorem qr_60 : q_go1 q_hk0 (-2147483648, -1) (-2147483648, 2147483647) (25, 25) = true := by decide +kernel
set_option maxRecDepth 1000000 in
theorem qr_61 : q_go1 q_hk0 (0, 0) (-2147483648, 2147483647) (25, 25) = true := by decide +kernel
set_option maxRecDepth 1000000 in
theorem qr_62 : q_go1 q_hk0 (1, 2147483647) (-2147483648, 2147483647) (25, 25) = true := by decide +kernel
set_option maxRecDepth 1000000 in
theorem qr_63 : q_go1 q_hk0 (-2147483648, -1) (-2147483648, 2147483647) (26, 26) = true := by decide +kernel
set_option maxRecDepth 1000000 in
theorem qr_64 : q_go1 q_hk0 (0, 0) (-2147483648, 2147483647) (26, 26) = true := by decide +kernel
set_option maxRecDepth 1000000 in
theorem qr_65 : q_go1 q_hk0 (1, 2147483647) (-2147483648, 2147483647) (26, 26) = true := by decide +kernel
