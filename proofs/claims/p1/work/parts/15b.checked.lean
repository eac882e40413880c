theorem g_MF_ok {x : Nat} {f : Nat × Nat × Nat × Nat × Nat × Nat × Nat × Nat × Nat × Nat} {M : g_M} (h1 : g_MF[x]? = some f) (h2 : g_ml[x]? = some M) (h3 : f.1 ≠ 9) : g_mck f M = true ∧ Cond.code M.2.1 M.2.2.1 M.2.2.2.1 M.2.2.2.2.1 ∈ g_wk := by
  match x, h1, h2 with
  | 0, h1, h2 => cases h1; exact absurd rfl h3
  | 1, h1, h2 => cases h1; cases h2; exact ⟨mkX0_init, cwX0_init⟩
  | 2, h1, h2 => cases h1; cases h2; exact ⟨mkX0_go, cwX0_go⟩
  | 3, h1, h2 => cases h1; cases h2; exact ⟨mkX0_pass, cwX0_pass⟩
  | 4, h1, h2 => cases h1; cases h2; exact ⟨mkX0_weaken, cwX0_weaken⟩
  | 5, h1, h2 => cases h1; cases h2; exact ⟨mkX0_breakToys, cwX0_breakToys⟩
  | 6, h1, h2 => cases h1; cases h2; exact ⟨mkX0_quarrelAll, cwX0_quarrelAll⟩
  | 7, h1, h2 => cases h1; cases h2; exact ⟨mkX0_recover, cwX0_recover⟩
  | 8, h1, h2 => cases h1; cases h2; exact ⟨mkX0_sicken, cwX0_sicken⟩
  | 9, h1, h2 => cases h1; cases h2; exact ⟨mkX0_askRules, cwX0_askRules⟩
  | 10, h1, h2 => cases h1; cases h2; exact ⟨mkX1_init, cwX1_init⟩
  | 11, h1, h2 => cases h1; cases h2; exact ⟨mkX2_init, cwX2_init⟩
  | 12, h1, h2 => cases h1; cases h2; exact ⟨mkX3_init, cwX3_init⟩
  | 13, h1, h2 => cases h1; cases h2; exact ⟨mkX3_clauses, cwX3_clauses⟩
  | 14, h1, h2 => cases h1; cases h2; exact ⟨mkX3_ruleCount, cwX3_ruleCount⟩
  | 15, h1, h2 => cases h1; cases h2; exact ⟨mkX3_firstBroken, cwX3_firstBroken⟩
  | 16, h1, h2 => cases h1; cases h2; exact ⟨mkX3_lookAtWard, cwX3_lookAtWard⟩
  | 17, h1, h2 => cases h1; cases h2; exact ⟨mkX4_init, cwX4_init⟩
  | 18, h1, h2 => cases h1; cases h2; exact ⟨mkX5_init, cwX5_init⟩
  | 19, h1, h2 => cases h1; cases h2; exact ⟨mkX6_init, cwX6_init⟩
  | 20, h1, h2 => cases h1; cases h2; exact ⟨mkX7_init, cwX7_init⟩
  | 21, h1, h2 => cases h1; cases h2; exact ⟨mkX7_hasGust, cwX7_hasGust⟩
  | 22, h1, h2 => cases h1; cases h2; exact ⟨mkX7_hasNurse, cwX7_hasNurse⟩
  | 23, h1, h2 => cases h1; cases h2; exact ⟨mkX7_works, cwX7_works⟩
  | 24, h1, h2 => cases h1; cases h2; exact ⟨mkX7_inWard, cwX7_inWard⟩
  | 25, h1, h2 => cases h1; cases h2; exact ⟨mkX7_copy, cwX7_copy⟩
  | 26, h1, h2 => cases h1; cases h2; exact ⟨mkX8_init, cwX8_init⟩
  | 27, h1, h2 => cases h1; cases h2; exact ⟨mkX8_takes, cwX8_takes⟩
  | 28, h1, h2 => cases h1; cases h2; exact ⟨mkX8_append, cwX8_append⟩
  | 29, h1, h2 => cases h1; cases h2; exact ⟨mkX8_empty, cwX8_empty⟩
  | 30, h1, h2 => cases h1; cases h2; exact ⟨mkX9_init, cwX9_init⟩
  | 31, h1, h2 => cases h1; cases h2; exact ⟨mkX9_lessonAt, cwX9_lessonAt⟩
  | 32, h1, h2 => cases h1; cases h2; exact ⟨mkX9_placeAfter, cwX9_placeAfter⟩
  | 33, h1, h2 => cases h1; cases h2; exact ⟨mkX10_init, cwX10_init⟩
  | 34, h1, h2 => cases h1; cases h2; exact ⟨mkX11_init, cwX11_init⟩
  | 35, h1, h2 => cases h1; cases h2; exact ⟨mkX11_gust, cwX11_gust⟩
  | 36, h1, h2 => cases h1; cases h2; exact ⟨mkX11_name, cwX11_name⟩
  | 37, h1, h2 => cases h1; cases h2; exact ⟨mkX11_moves, cwX11_moves⟩
  | 38, h1, h2 => cases h1; cases h2; exact ⟨mkX11_habit, cwX11_habit⟩
  | 39, h1, h2 => cases h1; cases h2; exact ⟨mkX11_ward, cwX11_ward⟩
  | 40, h1, h2 => cases h1; cases h2; exact ⟨mkX11_nurse, cwX11_nurse⟩
  | 41, h1, h2 => cases h1; cases h2; exact ⟨mkX11_needs, cwX11_needs⟩
  | 42, h1, h2 => cases h1; cases h2; exact ⟨mkX11_wind, cwX11_wind⟩
  | 43, h1, h2 => cases h1; cases h2; exact ⟨mkX11_home, cwX11_home⟩
  | 44, h1, h2 => cases h1; cases h2; exact ⟨mkX11_house, cwX11_house⟩
  | 45, h1, h2 => cases h1; cases h2; exact ⟨mkX11_seed, cwX11_seed⟩
  | 46, h1, h2 => cases h1; cases h2; exact ⟨mkX11_feed, cwX11_feed⟩
  | 47, h1, h2 => cases h1; cases h2; exact ⟨mkX11_law, cwX11_law⟩
  | 48, h1, h2 => cases h1; cases h2; exact ⟨mkX11_rules, cwX11_rules⟩
  | 49, h1, h2 => cases h1; cases h2; exact ⟨mkX11_timetable, cwX11_timetable⟩
  | 50, h1, h2 => cases h1; cases h2; exact ⟨mkX11_months, cwX11_months⟩
  | 51, h1, h2 => cases h1; cases h2; exact ⟨mkX11_tried, cwX11_tried⟩
  | 52, h1, h2 => cases h1; cases h2; exact ⟨mkX11_gustIs, cwX11_gustIs⟩
  | 53, h1, h2 => cases h1; cases h2; exact ⟨mkX11_wardIs, cwX11_wardIs⟩
  | 54, h1, h2 => cases h1; cases h2; exact ⟨mkX11_nurseIs, cwX11_nurseIs⟩
  | 55, h1, h2 => cases h1; cases h2; exact ⟨mkX11_quarrel, cwX11_quarrel⟩
  | 56, h1, h2 => cases h1; cases h2; exact ⟨mkX11_count, cwX11_count⟩
  | 57, h1, h2 => cases h1; cases h2; exact ⟨mkX11_added, cwX11_added⟩
  | 58, h1, h2 => cases h1; cases h2; exact ⟨mkX11_housed, cwX11_housed⟩
  | 59, h1, h2 => cases h1; cases h2; exact ⟨mkX11_leaving, cwX11_leaving⟩
  | 60, h1, h2 => cases h1; cases h2; exact ⟨mkX11_letGo, cwX11_letGo⟩
  | 61, h1, h2 => cases h1; cases h2; exact ⟨mkX11_from, cwX11_from⟩
  | 62, h1, h2 => cases h1; cases h2; exact ⟨mkX11_taught, cwX11_taught⟩
  | 63, h1, h2 => cases h1; cases h2; exact ⟨mkX11_placed, cwX11_placed⟩
  | 64, h1, h2 => cases h1; cases h2; exact ⟨mkX11_fair, cwX11_fair⟩
  | 65, h1, h2 => cases h1; cases h2; exact ⟨mkX11_escaped, cwX11_escaped⟩
  | 66, h1, h2 => cases h1; cases h2; exact ⟨mkX11_nursed, cwX11_nursed⟩
  | 67, h1, h2 => cases h1; cases h2; exact ⟨mkX11_round, cwX11_round⟩
  | 68, h1, h2 => cases h1; cases h2; exact ⟨mkX11_keep, cwX11_keep⟩
  | 69, h1, h2 => cases h1; cases h2; exact ⟨mkX11_undo, cwX11_undo⟩
  | 70, h1, h2 => cases h1; cases h2; exact ⟨mkX11_check, cwX11_check⟩
  | 71, h1, h2 => cases h1; cases h2; exact ⟨mkX11_within, cwX11_within⟩
  | 72, h1, h2 => cases h1; cases h2; exact ⟨mkX11_isIn, cwX11_isIn⟩
  | 73, h1, h2 => cases h1; cases h2; exact ⟨mkX11_chosen, cwX11_chosen⟩
  | 74, h1, h2 => cases h1; cases h2; exact ⟨mkX11_wardAt, cwX11_wardAt⟩
  | 75, h1, h2 => cases h1; cases h2; exact ⟨mkX12_init, cwX12_init⟩
  | 76, h1, h2 => cases h1; cases h2; exact ⟨mkX12_lies, cwX12_lies⟩
  | 77, h1, h2 => cases h1; cases h2; exact ⟨mkX12_has, cwX12_has⟩
  | 78, h1, h2 => cases h1; cases h2; exact ⟨mkX12_sizeOf, cwX12_sizeOf⟩
  | 79, h1, h2 => cases h1; cases h2; exact ⟨mkX12_push, cwX12_push⟩
  | 80, h1, h2 => cases h1; cases h2; exact ⟨mkX12_feed, cwX12_feed⟩
  | 81, h1, h2 => cases h1; cases h2; exact ⟨mkX12_law, cwX12_law⟩
  | 82, h1, h2 => cases h1; cases h2; exact ⟨mkX12_rules, cwX12_rules⟩
  | 83, h1, h2 => cases h1; cases h2; exact ⟨mkX12_isTold, cwX12_isTold⟩
  | 84, h1, h2 => cases h1; cases h2; exact ⟨mkX12_isWard, cwX12_isWard⟩
  | 85, h1, h2 => cases h1; cases h2; exact ⟨mkX12_isThere, cwX12_isThere⟩
  | 86, h1, h2 => cases h1; cases h2; exact ⟨mkX12_areHabits, cwX12_areHabits⟩
  | 87, h1, h2 => cases h1; cases h2; exact ⟨mkX12_isIn, cwX12_isIn⟩
  | 88, h1, h2 => cases h1; cases h2; exact ⟨mkX12_gust, cwX12_gust⟩
  | 89, h1, h2 => cases h1; cases h2; exact ⟨mkX12_name, cwX12_name⟩
  | 90, h1, h2 => cases h1; cases h2; exact ⟨mkX12_moves, cwX12_moves⟩
  | 91, h1, h2 => cases h1; cases h2; exact ⟨mkX12_habit, cwX12_habit⟩
  | 92, h1, h2 => cases h1; cases h2; exact ⟨mkX12_ward, cwX12_ward⟩
  | 93, h1, h2 => cases h1; cases h2; exact ⟨mkX12_nurse, cwX12_nurse⟩
  | 94, h1, h2 => cases h1; cases h2; exact ⟨mkX12_needs, cwX12_needs⟩
  | 95, h1, h2 => cases h1; cases h2; exact ⟨mkX12_timetable, cwX12_timetable⟩
  | 96, h1, h2 => cases h1; cases h2; exact ⟨mkX12_lessonOf, cwX12_lessonOf⟩
  | 97, h1, h2 => cases h1; cases h2; exact ⟨mkX12_weakens, cwX12_weakens⟩
  | 98, h1, h2 => cases h1; cases h2; exact ⟨mkX12_isWell, cwX12_isWell⟩
  | 99, h1, h2 => cases h1; cases h2; exact ⟨mkX12_wardsGo, cwX12_wardsGo⟩
  | 100, h1, h2 => cases h1; cases h2; exact ⟨mkX12_breaks, cwX12_breaks⟩
  | 101, h1, h2 => cases h1; cases h2; exact ⟨mkX12_whistle, cwX12_whistle⟩
  | 102, h1, h2 => cases h1; cases h2; exact ⟨mkX12_nursesGo, cwX12_nursesGo⟩
  | 103, h1, h2 => cases h1; cases h2; exact ⟨mkX12_judges, cwX12_judges⟩
  | 104, h1, h2 => cases h1; cases h2; exact ⟨mkX12_go, cwX12_go⟩
  | 105, h1, h2 => cases h1; cases h2; exact ⟨mkX12_months, cwX12_months⟩
  | 106, h1, h2 => cases h1; cases h2; exact ⟨mkX12_laysAside, cwX12_laysAside⟩
  | 107, h1, h2 => cases h1; cases h2; exact ⟨mkX12_bringsBack, cwX12_bringsBack⟩
  | 108, h1, h2 => cases h1; cases h2; exact ⟨mkX12_tried, cwX12_tried⟩
  | 109, h1, h2 => cases h1; cases h2; exact ⟨mkX12_orLess, cwX12_orLess⟩
  | 110, h1, h2 => cases h1; cases h2; exact ⟨mkX12_gustIs, cwX12_gustIs⟩
  | 111, h1, h2 => cases h1; cases h2; exact ⟨mkX12_setIn, cwX12_setIn⟩
  | 112, h1, h2 => cases h1; cases h2; exact ⟨mkX12_brokenIn, cwX12_brokenIn⟩
  | 113, h1, h2 => cases h1; cases h2; exact ⟨mkX12_wardIs, cwX12_wardIs⟩
  | 114, h1, h2 => cases h1; cases h2; exact ⟨mkX12_nurseIs, cwX12_nurseIs⟩
  | 115, h1, h2 => cases h1; cases h2; exact ⟨mkX12_quarrel, cwX12_quarrel⟩
  | 116, h1, h2 => cases h1; cases h2; exact ⟨mkX12_toldGusts, cwX12_toldGusts⟩
  | 117, h1, h2 => cases h1; cases h2; exact ⟨mkX12_areGusts, cwX12_areGusts⟩
  | 118, h1, h2 => cases h1; cases h2; exact ⟨mkX12_housed, cwX12_housed⟩
  | 119, h1, h2 => cases h1; cases h2; exact ⟨mkX12_wind, cwX12_wind⟩
  | 120, h1, h2 => cases h1; cases h2; exact ⟨mkX12_leaving, cwX12_leaving⟩
  | 121, h1, h2 => cases h1; cases h2; exact ⟨mkX12_letGo, cwX12_letGo⟩
  | 122, h1, h2 => cases h1; cases h2; exact ⟨mkX12_home, cwX12_home⟩
  | 123, h1, h2 => cases h1; cases h2; exact ⟨mkX12_from, cwX12_from⟩
  | 124, h1, h2 => cases h1; cases h2; exact ⟨mkX12_taught, cwX12_taught⟩
  | 125, h1, h2 => cases h1; cases h2; exact ⟨mkX12_house, cwX12_house⟩
  | 126, h1, h2 => cases h1; cases h2; exact ⟨mkX12_placed, cwX12_placed⟩
  | 127, h1, h2 => cases h1; cases h2; exact ⟨mkX12_fair, cwX12_fair⟩
  | 128, h1, h2 => cases h1; cases h2; exact ⟨mkX12_escaped, cwX12_escaped⟩
  | 129, h1, h2 => cases h1; cases h2; exact ⟨mkX12_toldNurses, cwX12_toldNurses⟩
  | 130, h1, h2 => cases h1; cases h2; exact ⟨mkX12_nursed, cwX12_nursed⟩
  | 131, h1, h2 => cases h1; cases h2; exact ⟨mkX12_round, cwX12_round⟩
  | 132, h1, h2 => cases h1; cases h2; exact ⟨mkX12_added, cwX12_added⟩
  | 133, h1, h2 => cases h1; cases h2; exact ⟨mkX12_seed, cwX12_seed⟩
  | 134, h1, h2 => cases h1; cases h2; exact ⟨mkX12_keep, cwX12_keep⟩
  | 135, h1, h2 => cases h1; cases h2; exact ⟨mkX12_undo, cwX12_undo⟩
  | 136, h1, h2 => cases h1; cases h2; exact ⟨mkX12_check, cwX12_check⟩
  | 137, h1, h2 => cases h1; cases h2; exact ⟨mkX12_toldOf, cwX12_toldOf⟩
  | 138, h1, h2 => cases h1; cases h2; exact ⟨mkX12_count, cwX12_count⟩
  | 139, h1, h2 => cases h1; cases h2; exact ⟨mkJ6_bitCount_0f7a4, cwJ6_bitCount_0f7a4⟩
  | 140, h1, h2 => cases h1; cases h2; exact ⟨mkJ7_fill_53178, cwJ7_fill_53178⟩
  | n + 141, h1, h2 => cases h1
theorem g_mck_base {f : Nat × Nat × Nat × Nat × Nat × Nat × Nat × Nat × Nat × Nat} {M : g_M} (h : g_mck f M = true) : plainName M.2.1.cls = true ∧ M.2.2.2.1 ≤ 45 ∧ M.2.1.cls = M.1 := by
  obtain ⟨kd, n, k1, j1, k2, j2, k3, j3, k4, j4⟩ := f
  simp only [g_mck, Bool.and_eq_true, decide_eq_true_eq] at h
  exact ⟨h.1.1, h.1.2.1, h.1.2.2.1⟩
theorem g_mck_c {f : Nat × Nat × Nat × Nat × Nat × Nat × Nat × Nat × Nat × Nat} {M : g_M} (h : g_mck f M = true) : Cond.initialized M.2.1.cls ∈ g_wk ∧ (M.2.1.cls ≠ "java/lang/invoke/MethodHandle" ∧ M.2.1.cls ≠ "java/lang/invoke/VarHandle" ∧ (parseMethodDescriptor M.2.1.desc).map (fun d => d.parameters.length) = some f.2.1) := by
  obtain ⟨kd, n, k1, j1, k2, j2, k3, j3, k4, j4⟩ := f
  simp only [g_mck, Bool.and_eq_true, decide_eq_true_eq] at h
  exact ⟨g_wkB_in h.2.2.1, h.1.2.2.2.1, h.1.2.2.2.2, h.2.1⟩
theorem g_mck_0 {f : Nat × Nat × Nat × Nat × Nat × Nat × Nat × Nat × Nat × Nat} {M : g_M} (h : g_mck f M = true) (hk : f.1 = 0) : Cond.static M.2.1 ∈ g_wk := by
  obtain ⟨kd, n, k1, j1, k2, j2, k3, j3, k4, j4⟩ := f
  dsimp only at hk
  subst hk
  simp only [g_mck, Bool.and_eq_true, decide_eq_true_eq] at h
  exact g_wkB_in h.2.2.2
theorem g_mck_1 {f : Nat × Nat × Nat × Nat × Nat × Nat × Nat × Nat × Nat × Nat} {M : g_M} (h : g_mck f M = true) (hk : f.1 = 1) : Cond.instanceMethod M.2.1 ∈ g_wk ∧ Cond.selects M.2.1.cls M.2.1 M.2.1 ∈ g_wk := by
  obtain ⟨kd, n, k1, j1, k2, j2, k3, j3, k4, j4⟩ := f
  dsimp only at hk
  subst hk
  simp only [g_mck, Bool.and_eq_true, decide_eq_true_eq] at h
  exact ⟨g_wkB_in h.2.2.2.1, g_wkB_in h.2.2.2.2⟩
theorem g_mck_2 {f : Nat × Nat × Nat × Nat × Nat × Nat × Nat × Nat × Nat × Nat} {M : g_M} (h : g_mck f M = true) (hk : f.1 = 2) : M.2.1.name = "<init>" ∧ Cond.instanceMethod M.2.1 ∈ g_wk ∧ M.2.2.2.2.1 = none := by
  obtain ⟨kd, n, k1, j1, k2, j2, k3, j3, k4, j4⟩ := f
  dsimp only at hk
  subst hk
  simp only [g_mck, Bool.and_eq_true, decide_eq_true_eq] at h
  exact ⟨h.2.2.2.2.1, g_wkB_in h.2.2.2.1, h.2.2.2.2.2⟩
theorem g_fl {oc i x y p : Nat} {q : Nat × Nat × Nat × Nat × Bool × Nat × Nat} (h1 : g_FL[p]? = some q) (h2 : q.1 = oc) (h3 : q.2.1 = i) (h4 : q.2.2.1 = x) (h5 : q.2.2.2.1 = y) : ∃ (C : String) (T : u_T) (N : Nat), vwCl[x]? = some (C, T, N) ∧ y < N ∧ (T y).1 = C ∧ ((q.2.2.2.2.1 = false ∧ Cond.fieldLink (g_cn oc) i C (T y).2.1 (T y).2.2.1 ∈ g_wk) ∨ (q.2.2.2.2.1 = true ∧ ∃ h, Cond.fieldLinkNest (g_cn oc) i C (T y).2.1 (T y).2.2.1 h ∈ g_wn)) := by
  have h6 := List.all_eq_true.mp g_FL_ok q (List.mem_of_getElem? h1)
  obtain ⟨oc', i', x', y', ne, k, j⟩ := q
  dsimp only at h2 h3 h4 h5
  subst h2 h3 h4 h5
  dsimp only [g_fck] at h6
  split at h6
  · rename_i C T N hc
    rw [Bool.and_eq_true, Bool.and_eq_true, decide_eq_true_eq, decide_eq_true_eq] at h6
    refine ⟨C, T, N, hc, h6.1, h6.2.1, ?_⟩
    cases ne
    · exact Or.inl ⟨rfl, g_wkB_in h6.2.2⟩
    · exact Or.inr ⟨rfl, _, g_wnB_in h6.2.2⟩
  · cases h6
theorem g_clk {oc i x p : Nat} {q : Nat × Nat × Nat × Bool × Nat × Nat} (h1 : g_CL[p]? = some q) (h2 : q.1 = oc) (h3 : q.2.1 = i) (h4 : q.2.2.1 = x) {M : g_M} (hM : g_ml[x]? = some M) : Cond.methodLink (g_cn oc) i M.2.1 ∈ g_wk ∨ ∃ h, Cond.methodLinkNest (g_cn oc) i M.2.1 h ∈ g_wn := by
  have h6 := List.all_eq_true.mp g_CL_ok q (List.mem_of_getElem? h1)
  obtain ⟨oc', i', x', ne, k, j⟩ := q
  dsimp only at h2 h3 h4
  subst h2 h3 h4
  dsimp only [g_cck] at h6
  rw [hM] at h6
  dsimp only at h6
  cases ne
  · exact Or.inl (g_wkB_in h6)
  · exact Or.inr ⟨_, g_wnB_in h6⟩
theorem g_kl {oc i : Nat} {z : Int} (h : g_KL.any (fun q => (q.1 == oc && q.2.1 == i) && (q.2.2.1 == z && !q.2.2.2.1)) = true) : Cond.constant (g_cn oc) i (Int32.ofInt z) ∈ g_wk := by
  obtain ⟨q, hq, h2⟩ := List.any_eq_true.mp h
  have h6 := List.all_eq_true.mp g_KL_ok q hq
  obtain ⟨oc', i', v, lg, k, j⟩ := q
  simp only [Bool.and_eq_true, beq_iff_eq, Bool.not_eq_true'] at h2
  obtain ⟨⟨rfl, rfl⟩, rfl, rfl⟩ := h2
  exact g_wkB_in h6
theorem g_kl2 {oc i : Nat} {z : Int} (h : g_KL.any (fun q => (q.1 == oc && q.2.1 == i) && (q.2.2.1 == z && q.2.2.2.1)) = true) : Cond.constantLong (g_cn oc) i (Int64.ofInt z) ∈ g_wk := by
  obtain ⟨q, hq, h2⟩ := List.any_eq_true.mp h
  have h6 := List.all_eq_true.mp g_KL_ok q hq
  obtain ⟨oc', i', v, lg, k, j⟩ := q
  simp only [Bool.and_eq_true, beq_iff_eq] at h2
  obtain ⟨⟨rfl, rfl⟩, rfl, rfl⟩ := h2
  exact g_wkB_in h6
theorem g_cL_kst {oc : Nat} {ini : Bool} {ins : Instr} {x y : Nat} {z : Int} (h : g_cL oc ini ins x y z = true) : g_kst (g_cn oc) z ins := by
  unfold g_kst
  split
  · exact g_kl h
  · exact g_kl h
  · exact g_kl2 h
  · trivial
set_option maxHeartbeats 1000000 in
theorem g_cL_lkh {oc : Nat} {ini : Bool} {mn : String} (hini : ini = true → mn = "<init>") {ins : Instr} {x y : Nat} {z : Int} (h : g_cL oc ini ins x y z = true) : g_lkh (g_cn oc) mn x y ins := by
  unfold g_lkh
  split
  · dsimp only [g_cL] at h
    split at h
    · rename_i q hq
      simp only [Bool.and_eq_true, beq_iff_eq] at h
      obtain ⟨C, T, N, h1, h2, h3, h4⟩ := g_fl hq h.1.1 h.1.2 h.2.1 h.2.2
      exact ⟨C, T, N, h1, h2, h3, h4.imp (fun a => a.2) (fun a => a.2)⟩
    · cases h
  · dsimp only [g_cL] at h
    split at h
    · rename_i q hq
      rw [Bool.and_eq_true] at h
      obtain ⟨ha, hb⟩ := h
      simp only [Bool.and_eq_true, beq_iff_eq] at ha
      obtain ⟨C, T, N, h1, h2, h3, h4⟩ := g_fl hq ha.1.1 ha.1.2 ha.2.1 ha.2.2
      refine ⟨C, T, N, h1, h2, h3, ?_⟩
      rw [h1] at hb
      dsimp only at hb
      cases hf : (T y).2.2.2
      · exact Or.inl ⟨rfl, h4.imp (fun a => a.2) (fun a => a.2)⟩
      · rw [hf] at hb
        simp only [cond_true, Bool.and_eq_true, beq_iff_eq, Bool.not_eq_true'] at hb
        obtain ⟨hb1, hb2, hb3⟩ := hb
        rcases h4 with h4 | h4
        · refine Or.inr ⟨rfl, hini hb1, ?_, h4.2⟩
          rw [h3]
          rw [← hb2]
          match x, h1 with
          | 0, h1 => cases h1; rfl
          | 1, h1 => cases h1; rfl
          | 2, h1 => cases h1; rfl
          | 3, h1 => cases h1; rfl
          | 4, h1 => cases h1; rfl
          | 5, h1 => cases h1; rfl
          | 6, h1 => cases h1; rfl
          | 7, h1 => cases h1; rfl
          | 8, h1 => cases h1; rfl
          | 9, h1 => cases h1; rfl
          | 10, h1 => cases h1; rfl
          | 11, h1 => cases h1; rfl
          | 12, h1 => cases h1; rfl
          | n + 13, h1 => simp [vwCl] at h1
        · rw [hb3] at h4; cases h4.1
    · cases h
  · dsimp only [g_cL] at h
    split at h
    · rename_i q hq
      simp only [Bool.and_eq_true, beq_iff_eq] at h
      have h6 := List.all_eq_true.mp g_NL_ok q (List.mem_of_getElem? hq)
      obtain ⟨oc', i', x', k, j, k2, j2, k3, j3⟩ := q
      dsimp only at h
      obtain ⟨⟨rfl, rfl⟩, rfl⟩ := h
      dsimp only [g_nck] at h6
      split at h6
      · rename_i C T N hc
        rw [Bool.and_eq_true, Bool.and_eq_true] at h6
        exact ⟨C, T, N, hc, g_wkB_in h6.1, g_wkB_in h6.2.1, g_wkB_in h6.2.2⟩
      · cases h6
    · cases h
  · rename_i t
    cases t <;> first | exact g_ac_int | exact g_ac_byte | exact g_ac_boolean | (simp [g_cL, g_tag] at h)
  · obtain ⟨q, hq, h2⟩ := List.any_eq_true.mp h
    have h6 := List.all_eq_true.mp g_AL_ok q hq
    obtain ⟨oc', i', k, j⟩ := q
    simp only [Bool.and_eq_true, beq_iff_eq] at h2
    obtain ⟨rfl, rfl⟩ := h2
    exact g_wkB_in h6
  · refine ⟨fun hx => ?_, fun hx => ?_⟩
    · subst hx
      have h7 : g_YL.any (fun q => q.1 == oc && q.2.1 == _) = true := h
      obtain ⟨q, hq, h2⟩ := List.any_eq_true.mp h7
      have h6 := List.all_eq_true.mp g_YL_ok q hq
      obtain ⟨oc', i', k, j⟩ := q
      simp only [Bool.and_eq_true, beq_iff_eq] at h2
      obtain ⟨rfl, rfl⟩ := h2
      exact ⟨g_wkB_in h6, g_y1, g_y2, g_y3⟩
    · have key : ∀ i, g_ZL.any (fun q => (q.1 == oc && q.2.1 == i) && q.2.2.1 == x) = true → Cond.methodLink (g_cn oc) i (g_zn x) ∈ g_wk := by
        intro i h7
        obtain ⟨q, hq, h2⟩ := List.any_eq_true.mp h7
        have h6 := List.all_eq_true.mp g_ZL_ok q hq
        obtain ⟨oc', i', x', k, j⟩ := q
        simp only [Bool.and_eq_true, beq_iff_eq] at h2
        obtain ⟨⟨rfl, rfl⟩, rfl⟩ := h2
        exact g_wkB_in h6
      refine ⟨g_z0, fun hx2 => ?_, fun hx2 => ?_, fun hx2 => ?_⟩
      · subst hx2
        exact ⟨key _ h, g_zs_max, g_zc_max⟩
      · subst hx2
        exact ⟨key _ h, g_zs_min, g_zc_min⟩
      · subst hx2
        exact ⟨key _ h, g_zs_abs, g_zc_abs⟩
  · trivial
set_option maxRecDepth 100000 in
theorem g_ml_77 : g_ml[77777]? = none ∧ g_ml[99998]? = none ∧ g_ml[99999]? = none ∧ g_ml[99997]? = none ∧ g_ml[99996]? = none ∧ g_ml[99995]? = none := by decide +kernel
set_option maxHeartbeats 1000000 in
theorem g_cL_lkc {oc : Nat} {ini : Bool} {ins : Instr} {x y : Nat} {z : Int} (h : g_cL oc ini ins x y z = true) : g_lkc g_mt (g_cn oc) x y ins := by
  unfold g_lkc
  split
  · intro M' hM'
    have hM : g_ml[x]? = some M' := (g_mt_ml hM').2
    dsimp only [g_cL] at h
    cases hx : (x == 77777) with
    | true => rw [beq_iff_eq] at hx; subst hx; rw [g_ml_77.1] at hM; cases hM
    | false =>
      rw [hx] at h
      cases hx2 : (x == 99998) with
      | true => rw [beq_iff_eq] at hx2; subst hx2; rw [g_ml_77.2.1] at hM; cases hM
      | false =>
        rw [hx2] at h
        cases hx3 : (x == 99997 || (x == 99996 || x == 99995)) with
        | true =>
          simp only [Bool.or_eq_true, beq_iff_eq] at hx3
          rcases hx3 with hx3 | hx3 | hx3
          · subst hx3; rw [g_ml_77.2.2.2.1] at hM; cases hM
          · subst hx3; rw [g_ml_77.2.2.2.2.1] at hM; cases hM
          · subst hx3; rw [g_ml_77.2.2.2.2.2] at hM; cases hM
        | false =>
          rw [hx3] at h
          dsimp only [cond_false] at h
          split at h
          · rename_i q hq
            rw [Bool.and_eq_true] at h
            obtain ⟨ha, hb⟩ := h
            simp only [Bool.and_eq_true, beq_iff_eq] at ha
            split at hb
            · rename_i f hf
              simp only [Bool.and_eq_true, beq_iff_eq] at hb
              have hm := (g_MF_ok hf hM (by rw [hb.1]; decide)).1
              obtain ⟨c1, c2⟩ := g_mck_c hm
              rw [hb.2] at c2
              exact ⟨⟨g_clk hq ha.1.1 ha.1.2 ha.2 hM, c1, c2⟩, g_mck_0 hm hb.1⟩
            · cases hb
          · cases h
  · intro M' hM'
    have hM : g_ml[x]? = some M' := (g_mt_ml hM').2
    dsimp only [g_cL] at h
    cases hx : (x == 77777) with
    | true => rw [beq_iff_eq] at hx; subst hx; rw [g_ml_77.1] at hM; cases hM
    | false =>
      rw [hx] at h
      dsimp only [cond_false] at h
      split at h
      · rename_i q hq
        rw [Bool.and_eq_true] at h
        obtain ⟨ha, hb⟩ := h
        simp only [Bool.and_eq_true, beq_iff_eq] at ha
        split at hb
        · rename_i f hf
          simp only [Bool.and_eq_true, beq_iff_eq] at hb
          have hm := (g_MF_ok hf hM (by rw [hb.1]; decide)).1
          obtain ⟨c1, c2⟩ := g_mck_c hm
          rw [hb.2] at c2
          exact ⟨⟨g_clk hq ha.1.1 ha.1.2 ha.2 hM, c1, c2⟩, g_mck_1 hm hb.1⟩
        · cases hb
      · cases h
  · refine ⟨fun hx => ?_, fun M' hM' => ?_⟩
    · subst hx
      have h7 : g_OL.any (fun q => q.1 == oc && q.2.1 == _) = true := h
      obtain ⟨q, hq, h2⟩ := List.any_eq_true.mp h7
      have h6 := List.all_eq_true.mp g_OL_ok q hq
      obtain ⟨oc', i', k, j⟩ := q
      simp only [Bool.and_eq_true, beq_iff_eq] at h2
      obtain ⟨rfl, rfl⟩ := h2
      exact ⟨g_wkB_in h6, g_o1, g_o2⟩
    · have hM : g_ml[x]? = some M' := (g_mt_ml hM').2
      dsimp only [g_cL] at h
      cases hx2 : (x == 99999) with
      | true => rw [beq_iff_eq] at hx2; subst hx2; rw [g_ml_77.2.2.1] at hM; cases hM
      | false =>
        rw [hx2] at h
        dsimp only [cond_false] at h
        split at h
        · rename_i q hq
          rw [Bool.and_eq_true] at h
          obtain ⟨ha, hb⟩ := h
          simp only [Bool.and_eq_true, beq_iff_eq] at ha
          split at hb
          · rename_i f hf
            simp only [Bool.and_eq_true, beq_iff_eq] at hb
            have hm := (g_MF_ok hf hM (by rw [hb.1]; decide)).1
            obtain ⟨c1, c2⟩ := g_mck_c hm
            rw [hb.2] at c2
            exact ⟨⟨g_clk hq ha.1.1 ha.1.2 ha.2 hM, c1, c2⟩, g_mck_2 hm hb.1⟩
          · cases hb
        · cases h
  · trivial
theorem g_tok_of {oc : Nat} {ini : Bool} {y : MethodName} {c : ByteArray} {mx : Nat} {rt : Option FieldType} {tt : List (Nat × List (Nat × g_En))} (hini : ini = true → y.name = "<init>") (h : tt.all (fun r => r.2.all (g_cE oc ini c)) = true) : g_Tok g_mt (g_cn oc, y, c, mx, rt, g_look2 tt) := by
  intro pc en hen
  obtain ⟨q, hq, hin⟩ := g_look2_in tt pc en hen
  have h1 := List.all_eq_true.mp (List.all_eq_true.mp h q hq) (pc, en) hin
  unfold g_cE at h1
  simp only [Bool.and_eq_true, Bool.or_eq_true, decide_eq_true_eq, beq_iff_eq] at h1
  obtain ⟨a1, a2, a3, a4⟩ := h1
  refine ⟨a1, fun hs => ?_, g_cL_kst a4, fun off ho => ?_, g_cL_lkh hini a4, g_cL_lkc a4⟩
  · rcases a2 with a2 | a2
    · rw [hs] at a2; cases a2
    · exact a2
  · rw [ho] at a3
    simpa using a3
theorem g_mok_of {x : Nat} {M : g_M} {f : Nat × Nat × Nat × Nat × Nat × Nat × Nat × Nat × Nat × Nat} (h1 : g_MF[x]? = some f) (h2 : g_ml[x]? = some M) (h3 : f.1 ≠ 9) (ht : g_Tok g_mt M) : g_Mok g_mt M := by
  obtain ⟨b1, b2, b4⟩ := g_mck_base (g_MF_ok h1 h2 h3).1
  exact ⟨b1, b2, (g_MF_ok h1 h2 h3).2, b4, ht⟩
