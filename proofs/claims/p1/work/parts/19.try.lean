noncomputable def q_law : g_M := (g_cn 13, x, code, 4, some .boolean, g_look2 ttL_law)
noncomputable def q_K0 (v : Option q_V) (A : q_A) : Bool := match v with
  | some (.inl a) => q_ieq (q_iv A.1 a).1 1 && q_ieq (q_iv A.1 a).2 1
  | _ => false
def q_full : q_E := (-2147483648, 2147483647, 0, .inl 0, .inl 0)
def q_env0 (o : Int) : q_S := [(o, o, 0, .inl 0, .inl 0), q_full, q_full, q_full, q_full, q_full]
def q_scr : List q_N := [.inr 0, .inr 1, .inr 2, .inr 3, .inr 4, .inr 5]
set_option maxRecDepth 1000000 in
theorem q_try4 : q_run 6 q_scr 6000 60 q_law 0 [(0, .inr (.inr (some 0)))] [] (q_env0 4, 0, []) q_K0 = true := by decide +kernel
set_option maxRecDepth 1000000 in
theorem q_try14 : q_run 6 q_scr 6000 60 q_law 0 [(0, .inr (.inr (some 0)))] [] (q_env0 14, 0, []) q_K0 = true := by decide +kernel
