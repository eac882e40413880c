set_option maxRecDepth 1000000 in
theorem q_c21 : q_one 6 q_s6 q_hk0 (q_run (29, 58, q_J 3 q_wP1 q_EP1 173 q_P1 q_lp1) 6 q_s6 q_hk0 20000) 58 q_MC 29 q_lp1 [] (q_EP1, 173, q_P1) (q_KQ q_wP1 q_EQ1 173 q_Q1) = true := by decide +kernel
