set_option maxRecDepth 1000000 in
theorem q_c22 : q_one 6 q_s6 q_hk0 (q_run (29, 58, q_J 3 q_wP2 q_EP2 173 q_P2 q_lp2) 6 q_s6 q_hk0 20000) 58 q_MC 29 q_lp2 [] (q_EP2, 173, q_P2) (q_KQ q_wP2 q_EQ2 173 q_Q2) = true := by decide +kernel
