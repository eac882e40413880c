set_option maxRecDepth 1000000 in
theorem q_c23 : q_one 6 q_s6 q_hk0 (q_run (39, 58, q_J 2 q_wP3 q_EP3 173 q_P3 q_lp3) 6 q_s6 q_hk0 20000) 58 q_MR 39 q_lp3 [] (q_EP3, 173, q_P3) (q_KQ q_wP3 q_EQ3 173 q_Q3) = true := by decide +kernel
