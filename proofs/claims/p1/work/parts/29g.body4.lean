set_option maxRecDepth 1000000 in
theorem q_c24 : q_one 6 q_s6 q_hk0 (q_run (39, 58, q_J 2 q_wP4 q_EP4 173 q_P4 q_lp4) 6 q_s6 q_hk0 20000) 58 q_MR 39 q_lp4 [] (q_EP4, 173, q_P4) (q_KQ q_wP4 q_EQ4 173 q_Q4) = true := by decide +kernel
