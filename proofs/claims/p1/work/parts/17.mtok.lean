theorem g_mt_ok : ∀ μ M, g_mt μ = some M → g_Mok g_mt M := by
  intro μ M h9
  obtain ⟨h0, h⟩ := g_mt_ml h9
  match μ, h with
  | 0, h => exact absurd rfl h0
  | 1, h => cases h; exact g_mok_of (x := 1) rfl rfl (by decide) (g_tok_of (ini := true) (fun _ => rfl) tkX0_init)
  | 2, h => cases h; exact g_mok_of (x := 2) rfl rfl (by decide) (g_tok_of (ini := false) (fun h => by cases h) tkX0_go)
  | 3, h => cases h; exact g_mok_of (x := 3) rfl rfl (by decide) (g_tok_of (ini := false) (fun h => by cases h) tkX0_pass)
  | 4, h => cases h; exact g_mok_of (x := 4) rfl rfl (by decide) (g_tok_of (ini := false) (fun h => by cases h) tkX0_weaken)
  | 5, h => cases h; exact g_mok_of (x := 5) rfl rfl (by decide) (g_tok_of (ini := false) (fun h => by cases h) tkX0_breakToys)
  | 6, h => cases h; exact g_mok_of (x := 6) rfl rfl (by decide) (g_tok_of (ini := false) (fun h => by cases h) tkX0_quarrelAll)
  | 7, h => cases h; exact g_mok_of (x := 7) rfl rfl (by decide) (g_tok_of (ini := false) (fun h => by cases h) tkX0_recover)
  | 8, h => cases h; exact g_mok_of (x := 8) rfl rfl (by decide) (g_tok_of (ini := false) (fun h => by cases h) tkX0_sicken)
  | 9, h => cases h; exact g_mok_of (x := 9) rfl rfl (by decide) (g_tok_of (ini := false) (fun h => by cases h) tkX0_askRules)
  | 10, h => cases h; exact g_mok_of (x := 10) rfl rfl (by decide) (g_tok_of (ini := true) (fun _ => rfl) tkX1_init)
  | 11, h => cases h; exact g_mok_of (x := 11) rfl rfl (by decide) (g_tok_of (ini := true) (fun _ => rfl) tkX2_init)
  | 12, h => cases h; exact g_mok_of (x := 12) rfl rfl (by decide) (g_tok_of (ini := true) (fun _ => rfl) tkX3_init)
  | 13, h => cases h; exact g_mok_of (x := 13) rfl rfl (by decide) (g_tok_of (ini := false) (fun h => by cases h) tkX3_clauses)
  | 14, h => cases h; exact g_mok_of (x := 14) rfl rfl (by decide) (g_tok_of (ini := false) (fun h => by cases h) tkX3_ruleCount)
  | 15, h => cases h; exact g_mok_of (x := 15) rfl rfl (by decide) (g_tok_of (ini := false) (fun h => by cases h) tkX3_firstBroken)
  | 16, h => cases h; exact g_mok_of (x := 16) rfl rfl (by decide) (g_tok_of (ini := false) (fun h => by cases h) tkX3_lookAtWard)
  | 17, h => cases h; exact g_mok_of (x := 17) rfl rfl (by decide) (g_tok_of (ini := true) (fun _ => rfl) tkX4_init)
  | 18, h => cases h; exact g_mok_of (x := 18) rfl rfl (by decide) (g_tok_of (ini := true) (fun _ => rfl) tkX5_init)
  | 19, h => cases h; exact g_mok_of (x := 19) rfl rfl (by decide) (g_tok_of (ini := true) (fun _ => rfl) tkX6_init)
  | 20, h => cases h; exact g_mok_of (x := 20) rfl rfl (by decide) (g_tok_of (ini := true) (fun _ => rfl) tkX7_init)
  | 21, h => cases h; exact g_mok_of (x := 21) rfl rfl (by decide) (g_tok_of (ini := false) (fun h => by cases h) tkX7_hasGust)
  | 22, h => cases h; exact g_mok_of (x := 22) rfl rfl (by decide) (g_tok_of (ini := false) (fun h => by cases h) tkX7_hasNurse)
  | 23, h => cases h; exact g_mok_of (x := 23) rfl rfl (by decide) (g_tok_of (ini := false) (fun h => by cases h) tkX7_works)
  | 24, h => cases h; exact g_mok_of (x := 24) rfl rfl (by decide) (g_tok_of (ini := false) (fun h => by cases h) tkX7_inWard)
  | 25, h => cases h; exact g_mok_of (x := 25) rfl rfl (by decide) (g_tok_of (ini := false) (fun h => by cases h) tkX7_copy)
  | 26, h => cases h; exact g_mok_of (x := 26) rfl rfl (by decide) (g_tok_of (ini := true) (fun _ => rfl) tkX8_init)
  | 27, h => cases h; exact g_mok_of (x := 27) rfl rfl (by decide) (g_tok_of (ini := false) (fun h => by cases h) tkX8_takes)
  | 28, h => cases h; exact g_mok_of (x := 28) rfl rfl (by decide) (g_tok_of (ini := false) (fun h => by cases h) tkX8_append)
  | 29, h => cases h; exact g_mok_of (x := 29) rfl rfl (by decide) (g_tok_of (ini := false) (fun h => by cases h) tkX8_empty)
  | 30, h => cases h; exact g_mok_of (x := 30) rfl rfl (by decide) (g_tok_of (ini := true) (fun _ => rfl) tkX9_init)
  | 31, h => cases h; exact g_mok_of (x := 31) rfl rfl (by decide) (g_tok_of (ini := false) (fun h => by cases h) tkX9_lessonAt)
  | 32, h => cases h; exact g_mok_of (x := 32) rfl rfl (by decide) (g_tok_of (ini := false) (fun h => by cases h) tkX9_placeAfter)
  | 33, h => cases h; exact g_mok_of (x := 33) rfl rfl (by decide) (g_tok_of (ini := true) (fun _ => rfl) tkX10_init)
  | 34, h => cases h; exact g_mok_of (x := 34) rfl rfl (by decide) (g_tok_of (ini := true) (fun _ => rfl) tkX11_init)
  | 35, h => cases h; exact g_mok_of (x := 35) rfl rfl (by decide) (g_tok_of (ini := false) (fun h => by cases h) tkX11_gust)
  | 36, h => cases h; exact g_mok_of (x := 36) rfl rfl (by decide) (g_tok_of (ini := false) (fun h => by cases h) tkX11_name)
  | 37, h => cases h; exact g_mok_of (x := 37) rfl rfl (by decide) (g_tok_of (ini := false) (fun h => by cases h) tkX11_moves)
  | 38, h => cases h; exact g_mok_of (x := 38) rfl rfl (by decide) (g_tok_of (ini := false) (fun h => by cases h) tkX11_habit)
  | 39, h => cases h; exact g_mok_of (x := 39) rfl rfl (by decide) (g_tok_of (ini := false) (fun h => by cases h) tkX11_ward)
  | 40, h => cases h; exact g_mok_of (x := 40) rfl rfl (by decide) (g_tok_of (ini := false) (fun h => by cases h) tkX11_nurse)
  | 41, h => cases h; exact g_mok_of (x := 41) rfl rfl (by decide) (g_tok_of (ini := false) (fun h => by cases h) tkX11_needs)
  | 42, h => cases h; exact g_mok_of (x := 42) rfl rfl (by decide) (g_tok_of (ini := false) (fun h => by cases h) tkX11_wind)
  | 43, h => cases h; exact g_mok_of (x := 43) rfl rfl (by decide) (g_tok_of (ini := false) (fun h => by cases h) tkX11_home)
  | 44, h => cases h; exact g_mok_of (x := 44) rfl rfl (by decide) (g_tok_of (ini := false) (fun h => by cases h) tkX11_house)
  | 45, h => cases h; exact g_mok_of (x := 45) rfl rfl (by decide) (g_tok_of (ini := false) (fun h => by cases h) tkX11_seed)
  | 46, h => cases h; exact g_mok_of (x := 46) rfl rfl (by decide) (g_tok_of (ini := false) (fun h => by cases h) tkX11_feed)
  | 47, h => cases h; exact g_mok_of (x := 47) rfl rfl (by decide) (g_tok_of (ini := false) (fun h => by cases h) tkX11_law)
  | 48, h => cases h; exact g_mok_of (x := 48) rfl rfl (by decide) (g_tok_of (ini := false) (fun h => by cases h) tkX11_rules)
  | 49, h => cases h; exact g_mok_of (x := 49) rfl rfl (by decide) (g_tok_of (ini := false) (fun h => by cases h) tkX11_timetable)
  | 50, h => cases h; exact g_mok_of (x := 50) rfl rfl (by decide) (g_tok_of (ini := false) (fun h => by cases h) tkX11_months)
  | 51, h => cases h; exact g_mok_of (x := 51) rfl rfl (by decide) (g_tok_of (ini := false) (fun h => by cases h) tkX11_tried)
  | 52, h => cases h; exact g_mok_of (x := 52) rfl rfl (by decide) (g_tok_of (ini := false) (fun h => by cases h) tkX11_gustIs)
  | 53, h => cases h; exact g_mok_of (x := 53) rfl rfl (by decide) (g_tok_of (ini := false) (fun h => by cases h) tkX11_wardIs)
  | 54, h => cases h; exact g_mok_of (x := 54) rfl rfl (by decide) (g_tok_of (ini := false) (fun h => by cases h) tkX11_nurseIs)
  | 55, h => cases h; exact g_mok_of (x := 55) rfl rfl (by decide) (g_tok_of (ini := false) (fun h => by cases h) tkX11_quarrel)
  | 56, h => cases h; exact g_mok_of (x := 56) rfl rfl (by decide) (g_tok_of (ini := false) (fun h => by cases h) tkX11_count)
  | 57, h => cases h; exact g_mok_of (x := 57) rfl rfl (by decide) (g_tok_of (ini := false) (fun h => by cases h) tkX11_added)
  | 58, h => cases h; exact g_mok_of (x := 58) rfl rfl (by decide) (g_tok_of (ini := false) (fun h => by cases h) tkX11_housed)
  | 59, h => cases h; exact g_mok_of (x := 59) rfl rfl (by decide) (g_tok_of (ini := false) (fun h => by cases h) tkX11_leaving)
  | 60, h => cases h; exact g_mok_of (x := 60) rfl rfl (by decide) (g_tok_of (ini := false) (fun h => by cases h) tkX11_letGo)
  | 61, h => cases h; exact g_mok_of (x := 61) rfl rfl (by decide) (g_tok_of (ini := false) (fun h => by cases h) tkX11_from)
  | 62, h => cases h; exact g_mok_of (x := 62) rfl rfl (by decide) (g_tok_of (ini := false) (fun h => by cases h) tkX11_taught)
  | 63, h => cases h; exact g_mok_of (x := 63) rfl rfl (by decide) (g_tok_of (ini := false) (fun h => by cases h) tkX11_placed)
  | 64, h => cases h; exact g_mok_of (x := 64) rfl rfl (by decide) (g_tok_of (ini := false) (fun h => by cases h) tkX11_fair)
  | 65, h => cases h; exact g_mok_of (x := 65) rfl rfl (by decide) (g_tok_of (ini := false) (fun h => by cases h) tkX11_escaped)
  | 66, h => cases h; exact g_mok_of (x := 66) rfl rfl (by decide) (g_tok_of (ini := false) (fun h => by cases h) tkX11_nursed)
  | 67, h => cases h; exact g_mok_of (x := 67) rfl rfl (by decide) (g_tok_of (ini := false) (fun h => by cases h) tkX11_round)
  | 68, h => cases h; exact g_mok_of (x := 68) rfl rfl (by decide) (g_tok_of (ini := false) (fun h => by cases h) tkX11_keep)
  | 69, h => cases h; exact g_mok_of (x := 69) rfl rfl (by decide) (g_tok_of (ini := false) (fun h => by cases h) tkX11_undo)
  | 70, h => cases h; exact g_mok_of (x := 70) rfl rfl (by decide) (g_tok_of (ini := false) (fun h => by cases h) tkX11_check)
  | 71, h => cases h; exact g_mok_of (x := 71) rfl rfl (by decide) (g_tok_of (ini := false) (fun h => by cases h) tkX11_within)
  | 72, h => cases h; exact g_mok_of (x := 72) rfl rfl (by decide) (g_tok_of (ini := false) (fun h => by cases h) tkX11_isIn)
  | 73, h => cases h; exact g_mok_of (x := 73) rfl rfl (by decide) (g_tok_of (ini := false) (fun h => by cases h) tkX11_chosen)
  | 74, h => cases h; exact g_mok_of (x := 74) rfl rfl (by decide) (g_tok_of (ini := false) (fun h => by cases h) tkX11_wardAt)
  | 75, h => cases h; exact g_mok_of (x := 75) rfl rfl (by decide) (g_tok_of (ini := true) (fun _ => rfl) tkX12_init)
  | 76, h => cases h; exact g_mok_of (x := 76) rfl rfl (by decide) (g_tok_of (ini := false) (fun h => by cases h) tkX12_lies)
  | 77, h => cases h; exact g_mok_of (x := 77) rfl rfl (by decide) (g_tok_of (ini := false) (fun h => by cases h) tkX12_has)
  | 78, h => cases h; exact g_mok_of (x := 78) rfl rfl (by decide) (g_tok_of (ini := false) (fun h => by cases h) tkX12_sizeOf)
  | 79, h => cases h; exact g_mok_of (x := 79) rfl rfl (by decide) (g_tok_of (ini := false) (fun h => by cases h) tkX12_push)
  | 80, h => cases h; exact g_mok_of (x := 80) rfl rfl (by decide) (g_tok_of (ini := false) (fun h => by cases h) tkX12_feed)
  | 81, h => cases h; exact g_mok_of (x := 81) rfl rfl (by decide) (g_tok_of (ini := false) (fun h => by cases h) tkX12_law)
  | 82, h => cases h; exact g_mok_of (x := 82) rfl rfl (by decide) (g_tok_of (ini := false) (fun h => by cases h) tkX12_rules)
  | 83, h => cases h; exact g_mok_of (x := 83) rfl rfl (by decide) (g_tok_of (ini := false) (fun h => by cases h) tkX12_isTold)
  | 84, h => cases h; exact g_mok_of (x := 84) rfl rfl (by decide) (g_tok_of (ini := false) (fun h => by cases h) tkX12_isWard)
  | 85, h => cases h; exact g_mok_of (x := 85) rfl rfl (by decide) (g_tok_of (ini := false) (fun h => by cases h) tkX12_isThere)
  | 86, h => cases h; exact g_mok_of (x := 86) rfl rfl (by decide) (g_tok_of (ini := false) (fun h => by cases h) tkX12_areHabits)
  | 87, h => cases h; exact g_mok_of (x := 87) rfl rfl (by decide) (g_tok_of (ini := false) (fun h => by cases h) tkX12_isIn)
  | 88, h => cases h; exact g_mok_of (x := 88) rfl rfl (by decide) (g_tok_of (ini := false) (fun h => by cases h) tkX12_gust)
  | 89, h => cases h; exact g_mok_of (x := 89) rfl rfl (by decide) (g_tok_of (ini := false) (fun h => by cases h) tkX12_name)
  | 90, h => cases h; exact g_mok_of (x := 90) rfl rfl (by decide) (g_tok_of (ini := false) (fun h => by cases h) tkX12_moves)
  | 91, h => cases h; exact g_mok_of (x := 91) rfl rfl (by decide) (g_tok_of (ini := false) (fun h => by cases h) tkX12_habit)
  | 92, h => cases h; exact g_mok_of (x := 92) rfl rfl (by decide) (g_tok_of (ini := false) (fun h => by cases h) tkX12_ward)
  | 93, h => cases h; exact g_mok_of (x := 93) rfl rfl (by decide) (g_tok_of (ini := false) (fun h => by cases h) tkX12_nurse)
  | 94, h => cases h; exact g_mok_of (x := 94) rfl rfl (by decide) (g_tok_of (ini := false) (fun h => by cases h) tkX12_needs)
  | 95, h => cases h; exact g_mok_of (x := 95) rfl rfl (by decide) (g_tok_of (ini := false) (fun h => by cases h) tkX12_timetable)
  | 96, h => cases h; exact g_mok_of (x := 96) rfl rfl (by decide) (g_tok_of (ini := false) (fun h => by cases h) tkX12_lessonOf)
  | 97, h => cases h; exact g_mok_of (x := 97) rfl rfl (by decide) (g_tok_of (ini := false) (fun h => by cases h) tkX12_weakens)
  | 98, h => cases h; exact g_mok_of (x := 98) rfl rfl (by decide) (g_tok_of (ini := false) (fun h => by cases h) tkX12_isWell)
  | 99, h => cases h; exact g_mok_of (x := 99) rfl rfl (by decide) (g_tok_of (ini := false) (fun h => by cases h) tkX12_wardsGo)
  | 100, h => cases h; exact g_mok_of (x := 100) rfl rfl (by decide) (g_tok_of (ini := false) (fun h => by cases h) tkX12_breaks)
  | 101, h => cases h; exact g_mok_of (x := 101) rfl rfl (by decide) (g_tok_of (ini := false) (fun h => by cases h) tkX12_whistle)
  | 102, h => cases h; exact g_mok_of (x := 102) rfl rfl (by decide) (g_tok_of (ini := false) (fun h => by cases h) tkX12_nursesGo)
  | 103, h => cases h; exact g_mok_of (x := 103) rfl rfl (by decide) (g_tok_of (ini := false) (fun h => by cases h) tkX12_judges)
  | 104, h => cases h; exact g_mok_of (x := 104) rfl rfl (by decide) (g_tok_of (ini := false) (fun h => by cases h) tkX12_go)
  | 105, h => cases h; exact g_mok_of (x := 105) rfl rfl (by decide) (g_tok_of (ini := false) (fun h => by cases h) tkX12_months)
  | 106, h => cases h; exact g_mok_of (x := 106) rfl rfl (by decide) (g_tok_of (ini := false) (fun h => by cases h) tkX12_laysAside)
  | 107, h => cases h; exact g_mok_of (x := 107) rfl rfl (by decide) (g_tok_of (ini := false) (fun h => by cases h) tkX12_bringsBack)
  | 108, h => cases h; exact g_mok_of (x := 108) rfl rfl (by decide) (g_tok_of (ini := false) (fun h => by cases h) tkX12_tried)
  | 109, h => cases h; exact g_mok_of (x := 109) rfl rfl (by decide) (g_tok_of (ini := false) (fun h => by cases h) tkX12_orLess)
  | 110, h => cases h; exact g_mok_of (x := 110) rfl rfl (by decide) (g_tok_of (ini := false) (fun h => by cases h) tkX12_gustIs)
  | 111, h => cases h; exact g_mok_of (x := 111) rfl rfl (by decide) (g_tok_of (ini := false) (fun h => by cases h) tkX12_setIn)
  | 112, h => cases h; exact g_mok_of (x := 112) rfl rfl (by decide) (g_tok_of (ini := false) (fun h => by cases h) tkX12_brokenIn)
  | 113, h => cases h; exact g_mok_of (x := 113) rfl rfl (by decide) (g_tok_of (ini := false) (fun h => by cases h) tkX12_wardIs)
  | 114, h => cases h; exact g_mok_of (x := 114) rfl rfl (by decide) (g_tok_of (ini := false) (fun h => by cases h) tkX12_nurseIs)
  | 115, h => cases h; exact g_mok_of (x := 115) rfl rfl (by decide) (g_tok_of (ini := false) (fun h => by cases h) tkX12_quarrel)
  | 116, h => cases h; exact g_mok_of (x := 116) rfl rfl (by decide) (g_tok_of (ini := false) (fun h => by cases h) tkX12_toldGusts)
  | 117, h => cases h; exact g_mok_of (x := 117) rfl rfl (by decide) (g_tok_of (ini := false) (fun h => by cases h) tkX12_areGusts)
  | 118, h => cases h; exact g_mok_of (x := 118) rfl rfl (by decide) (g_tok_of (ini := false) (fun h => by cases h) tkX12_housed)
  | 119, h => cases h; exact g_mok_of (x := 119) rfl rfl (by decide) (g_tok_of (ini := false) (fun h => by cases h) tkX12_wind)
  | 120, h => cases h; exact g_mok_of (x := 120) rfl rfl (by decide) (g_tok_of (ini := false) (fun h => by cases h) tkX12_leaving)
  | 121, h => cases h; exact g_mok_of (x := 121) rfl rfl (by decide) (g_tok_of (ini := false) (fun h => by cases h) tkX12_letGo)
  | 122, h => cases h; exact g_mok_of (x := 122) rfl rfl (by decide) (g_tok_of (ini := false) (fun h => by cases h) tkX12_home)
  | 123, h => cases h; exact g_mok_of (x := 123) rfl rfl (by decide) (g_tok_of (ini := false) (fun h => by cases h) tkX12_from)
  | 124, h => cases h; exact g_mok_of (x := 124) rfl rfl (by decide) (g_tok_of (ini := false) (fun h => by cases h) tkX12_taught)
  | 125, h => cases h; exact g_mok_of (x := 125) rfl rfl (by decide) (g_tok_of (ini := false) (fun h => by cases h) tkX12_house)
  | 126, h => cases h; exact g_mok_of (x := 126) rfl rfl (by decide) (g_tok_of (ini := false) (fun h => by cases h) tkX12_placed)
  | 127, h => cases h; exact g_mok_of (x := 127) rfl rfl (by decide) (g_tok_of (ini := false) (fun h => by cases h) tkX12_fair)
  | 128, h => cases h; exact g_mok_of (x := 128) rfl rfl (by decide) (g_tok_of (ini := false) (fun h => by cases h) tkX12_escaped)
  | 129, h => cases h; exact g_mok_of (x := 129) rfl rfl (by decide) (g_tok_of (ini := false) (fun h => by cases h) tkX12_toldNurses)
  | 130, h => cases h; exact g_mok_of (x := 130) rfl rfl (by decide) (g_tok_of (ini := false) (fun h => by cases h) tkX12_nursed)
  | 131, h => cases h; exact g_mok_of (x := 131) rfl rfl (by decide) (g_tok_of (ini := false) (fun h => by cases h) tkX12_round)
  | 132, h => cases h; exact g_mok_of (x := 132) rfl rfl (by decide) (g_tok_of (ini := false) (fun h => by cases h) tkX12_added)
  | 133, h => cases h; exact g_mok_of (x := 133) rfl rfl (by decide) (g_tok_of (ini := false) (fun h => by cases h) tkX12_seed)
  | 134, h => cases h; exact g_mok_of (x := 134) rfl rfl (by decide) (g_tok_of (ini := false) (fun h => by cases h) tkX12_keep)
  | 135, h => cases h; exact g_mok_of (x := 135) rfl rfl (by decide) (g_tok_of (ini := false) (fun h => by cases h) tkX12_undo)
  | 136, h => cases h; exact g_mok_of (x := 136) rfl rfl (by decide) (g_tok_of (ini := false) (fun h => by cases h) tkX12_check)
  | 137, h => cases h; exact g_mok_of (x := 137) rfl rfl (by decide) (g_tok_of (ini := false) (fun h => by cases h) tkX12_toldOf)
  | 138, h => cases h; exact g_mok_of (x := 138) rfl rfl (by decide) (g_tok_of (ini := false) (fun h => by cases h) tkX12_count)
  | 139, h => cases h; exact g_mok_of (x := 139) rfl rfl (by decide) (g_tok_of (ini := false) (fun h => by cases h) tkJ6_bitCount_0f7a4)
  | 140, h => cases h; exact g_mok_of (x := 140) rfl rfl (by decide) (g_tok_of (ini := false) (fun h => by cases h) tkJ7_fill_53178)
  | n + 141, h => cases h
theorem g_law_ok : g_Tok g_mt (g_cn 13, x, code, 4, some .boolean, g_look2 ttL_law) := g_tok_of (ini := false) (fun h => by cases h) tkL_law
theorem g_oc_ok : ∀ (μ o : Nat) (M : g_M), g_mt μ = some M → g_oc[μ]? = some o → M.1 = g_cn o := by
  intro μ o M h9 h2
  obtain ⟨h0, h⟩ := g_mt_ml h9
  match μ, h, h2 with
  | 0, h, h2 => exact absurd rfl h0
  | 1, h, h2 => cases h; cases h2; rfl
  | 2, h, h2 => cases h; cases h2; rfl
  | 3, h, h2 => cases h; cases h2; rfl
  | 4, h, h2 => cases h; cases h2; rfl
  | 5, h, h2 => cases h; cases h2; rfl
  | 6, h, h2 => cases h; cases h2; rfl
  | 7, h, h2 => cases h; cases h2; rfl
  | 8, h, h2 => cases h; cases h2; rfl
  | 9, h, h2 => cases h; cases h2; rfl
  | 10, h, h2 => cases h; cases h2; rfl
  | 11, h, h2 => cases h; cases h2; rfl
  | 12, h, h2 => cases h; cases h2; rfl
  | 13, h, h2 => cases h; cases h2; rfl
  | 14, h, h2 => cases h; cases h2; rfl
  | 15, h, h2 => cases h; cases h2; rfl
  | 16, h, h2 => cases h; cases h2; rfl
  | 17, h, h2 => cases h; cases h2; rfl
  | 18, h, h2 => cases h; cases h2; rfl
  | 19, h, h2 => cases h; cases h2; rfl
  | 20, h, h2 => cases h; cases h2; rfl
  | 21, h, h2 => cases h; cases h2; rfl
  | 22, h, h2 => cases h; cases h2; rfl
  | 23, h, h2 => cases h; cases h2; rfl
  | 24, h, h2 => cases h; cases h2; rfl
  | 25, h, h2 => cases h; cases h2; rfl
  | 26, h, h2 => cases h; cases h2; rfl
  | 27, h, h2 => cases h; cases h2; rfl
  | 28, h, h2 => cases h; cases h2; rfl
  | 29, h, h2 => cases h; cases h2; rfl
  | 30, h, h2 => cases h; cases h2; rfl
  | 31, h, h2 => cases h; cases h2; rfl
  | 32, h, h2 => cases h; cases h2; rfl
  | 33, h, h2 => cases h; cases h2; rfl
  | 34, h, h2 => cases h; cases h2; rfl
  | 35, h, h2 => cases h; cases h2; rfl
  | 36, h, h2 => cases h; cases h2; rfl
  | 37, h, h2 => cases h; cases h2; rfl
  | 38, h, h2 => cases h; cases h2; rfl
  | 39, h, h2 => cases h; cases h2; rfl
  | 40, h, h2 => cases h; cases h2; rfl
  | 41, h, h2 => cases h; cases h2; rfl
  | 42, h, h2 => cases h; cases h2; rfl
  | 43, h, h2 => cases h; cases h2; rfl
  | 44, h, h2 => cases h; cases h2; rfl
  | 45, h, h2 => cases h; cases h2; rfl
  | 46, h, h2 => cases h; cases h2; rfl
  | 47, h, h2 => cases h; cases h2; rfl
  | 48, h, h2 => cases h; cases h2; rfl
  | 49, h, h2 => cases h; cases h2; rfl
  | 50, h, h2 => cases h; cases h2; rfl
  | 51, h, h2 => cases h; cases h2; rfl
  | 52, h, h2 => cases h; cases h2; rfl
  | 53, h, h2 => cases h; cases h2; rfl
  | 54, h, h2 => cases h; cases h2; rfl
  | 55, h, h2 => cases h; cases h2; rfl
  | 56, h, h2 => cases h; cases h2; rfl
  | 57, h, h2 => cases h; cases h2; rfl
  | 58, h, h2 => cases h; cases h2; rfl
  | 59, h, h2 => cases h; cases h2; rfl
  | 60, h, h2 => cases h; cases h2; rfl
  | 61, h, h2 => cases h; cases h2; rfl
  | 62, h, h2 => cases h; cases h2; rfl
  | 63, h, h2 => cases h; cases h2; rfl
  | 64, h, h2 => cases h; cases h2; rfl
  | 65, h, h2 => cases h; cases h2; rfl
  | 66, h, h2 => cases h; cases h2; rfl
  | 67, h, h2 => cases h; cases h2; rfl
  | 68, h, h2 => cases h; cases h2; rfl
  | 69, h, h2 => cases h; cases h2; rfl
  | 70, h, h2 => cases h; cases h2; rfl
  | 71, h, h2 => cases h; cases h2; rfl
  | 72, h, h2 => cases h; cases h2; rfl
  | 73, h, h2 => cases h; cases h2; rfl
  | 74, h, h2 => cases h; cases h2; rfl
  | 75, h, h2 => cases h; cases h2; rfl
  | 76, h, h2 => cases h; cases h2; rfl
  | 77, h, h2 => cases h; cases h2; rfl
  | 78, h, h2 => cases h; cases h2; rfl
  | 79, h, h2 => cases h; cases h2; rfl
  | 80, h, h2 => cases h; cases h2; rfl
  | 81, h, h2 => cases h; cases h2; rfl
  | 82, h, h2 => cases h; cases h2; rfl
  | 83, h, h2 => cases h; cases h2; rfl
  | 84, h, h2 => cases h; cases h2; rfl
  | 85, h, h2 => cases h; cases h2; rfl
  | 86, h, h2 => cases h; cases h2; rfl
  | 87, h, h2 => cases h; cases h2; rfl
  | 88, h, h2 => cases h; cases h2; rfl
  | 89, h, h2 => cases h; cases h2; rfl
  | 90, h, h2 => cases h; cases h2; rfl
  | 91, h, h2 => cases h; cases h2; rfl
  | 92, h, h2 => cases h; cases h2; rfl
  | 93, h, h2 => cases h; cases h2; rfl
  | 94, h, h2 => cases h; cases h2; rfl
  | 95, h, h2 => cases h; cases h2; rfl
  | 96, h, h2 => cases h; cases h2; rfl
  | 97, h, h2 => cases h; cases h2; rfl
  | 98, h, h2 => cases h; cases h2; rfl
  | 99, h, h2 => cases h; cases h2; rfl
  | 100, h, h2 => cases h; cases h2; rfl
  | 101, h, h2 => cases h; cases h2; rfl
  | 102, h, h2 => cases h; cases h2; rfl
  | 103, h, h2 => cases h; cases h2; rfl
  | 104, h, h2 => cases h; cases h2; rfl
  | 105, h, h2 => cases h; cases h2; rfl
  | 106, h, h2 => cases h; cases h2; rfl
  | 107, h, h2 => cases h; cases h2; rfl
  | 108, h, h2 => cases h; cases h2; rfl
  | 109, h, h2 => cases h; cases h2; rfl
  | 110, h, h2 => cases h; cases h2; rfl
  | 111, h, h2 => cases h; cases h2; rfl
  | 112, h, h2 => cases h; cases h2; rfl
  | 113, h, h2 => cases h; cases h2; rfl
  | 114, h, h2 => cases h; cases h2; rfl
  | 115, h, h2 => cases h; cases h2; rfl
  | 116, h, h2 => cases h; cases h2; rfl
  | 117, h, h2 => cases h; cases h2; rfl
  | 118, h, h2 => cases h; cases h2; rfl
  | 119, h, h2 => cases h; cases h2; rfl
  | 120, h, h2 => cases h; cases h2; rfl
  | 121, h, h2 => cases h; cases h2; rfl
  | 122, h, h2 => cases h; cases h2; rfl
  | 123, h, h2 => cases h; cases h2; rfl
  | 124, h, h2 => cases h; cases h2; rfl
  | 125, h, h2 => cases h; cases h2; rfl
  | 126, h, h2 => cases h; cases h2; rfl
  | 127, h, h2 => cases h; cases h2; rfl
  | 128, h, h2 => cases h; cases h2; rfl
  | 129, h, h2 => cases h; cases h2; rfl
  | 130, h, h2 => cases h; cases h2; rfl
  | 131, h, h2 => cases h; cases h2; rfl
  | 132, h, h2 => cases h; cases h2; rfl
  | 133, h, h2 => cases h; cases h2; rfl
  | 134, h, h2 => cases h; cases h2; rfl
  | 135, h, h2 => cases h; cases h2; rfl
  | 136, h, h2 => cases h; cases h2; rfl
  | 137, h, h2 => cases h; cases h2; rfl
  | 138, h, h2 => cases h; cases h2; rfl
  | 139, h, h2 => cases h; cases h2; rfl
  | 140, h, h2 => cases h; cases h2; rfl
  | n + 141, h, h2 => cases h
