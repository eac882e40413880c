theorem g_mt_ok : ∀ μ M, g_mt μ = some M → g_Mok g_mt M := by
  intro μ M h9
  obtain ⟨h0, h⟩ := g_mt_ml h9
  match μ, h with
  | 0, h => exact absurd rfl h0
  | 1, h => cases h; exact g_mok_of (x := 1) rfl rfl (by decide) (g_tok_of (ini := true) (fun _ => rfl) tkX0_init)
  | 2, h => cases h; exact g_mok_of (x := 2) rfl rfl (by decide) (g_tok_of (ini := false) (fun h => by cases h) tkX0_go)
  | 3, h => cases h; exact g_mok_of (x := 3) rfl rfl (by decide) (g_tok_of (ini := false) (fun h => by cases h) tkX0_pass)
  | 4, h => cases h; exact g_mok_of (x := 4) rfl rfl (by decide) (g_tok_of (ini := false) (fun h => by cases h) tkX0_weaken)
  | 5, h => cases h; exact g_mok_of (x := 5) rfl rfl (by decide) (g_tok_of (ini := false) (fun h => by cases h) tkX0_strengthen)
  | 6, h => cases h; exact g_mok_of (x := 6) rfl rfl (by decide) (g_tok_of (ini := false) (fun h => by cases h) tkX0_teach)
  | 7, h => cases h; exact g_mok_of (x := 7) rfl rfl (by decide) (g_tok_of (ini := false) (fun h => by cases h) tkX0_breakToys)
  | 8, h => cases h; exact g_mok_of (x := 8) rfl rfl (by decide) (g_tok_of (ini := false) (fun h => by cases h) tkX0_quarrelAll)
  | 9, h => cases h; exact g_mok_of (x := 9) rfl rfl (by decide) (g_tok_of (ini := false) (fun h => by cases h) tkX0_recover)
  | 10, h => cases h; exact g_mok_of (x := 10) rfl rfl (by decide) (g_tok_of (ini := false) (fun h => by cases h) tkX0_sicken)
  | 11, h => cases h; exact g_mok_of (x := 11) rfl rfl (by decide) (g_tok_of (ini := false) (fun h => by cases h) tkX0_askRules)
  | 12, h => cases h; exact g_mok_of (x := 12) rfl rfl (by decide) (g_tok_of (ini := true) (fun _ => rfl) tkX1_init)
  | 13, h => cases h; exact g_mok_of (x := 13) rfl rfl (by decide) (g_tok_of (ini := false) (fun h => by cases h) tkX1_clear)
  | 14, h => cases h; exact g_mok_of (x := 14) rfl rfl (by decide) (g_tok_of (ini := false) (fun h => by cases h) tkX1_openClause)
  | 15, h => cases h; exact g_mok_of (x := 15) rfl rfl (by decide) (g_tok_of (ini := false) (fun h => by cases h) tkX1_openCondition)
  | 16, h => cases h; exact g_mok_of (x := 16) rfl rfl (by decide) (g_tok_of (ini := false) (fun h => by cases h) tkX1_closeClause)
  | 17, h => cases h; exact g_mok_of (x := 17) rfl rfl (by decide) (g_tok_of (ini := false) (fun h => by cases h) tkX1_put)
  | 18, h => cases h; exact g_mok_of (x := 18) rfl rfl (by decide) (g_tok_of (ini := false) (fun h => by cases h) tkX1_land)
  | 19, h => cases h; exact g_mok_of (x := 19) rfl rfl (by decide) (g_tok_of (ini := false) (fun h => by cases h) tkX1_run)
  | 20, h => cases h; exact g_mok_of (x := 20) rfl rfl (by decide) (g_tok_of (ini := false) (fun h => by cases h) tkX1_valueAt)
  | 21, h => cases h; exact g_mok_of (x := 21) rfl rfl (by decide) (g_tok_of (ini := false) (fun h => by cases h) tkX1_join)
  | 22, h => cases h; exact g_mok_of (x := 22) rfl rfl (by decide) (g_tok_of (ini := true) (fun _ => rfl) tkX2_init)
  | 23, h => cases h; exact g_mok_of (x := 23) rfl rfl (by decide) (g_tok_of (ini := false) (fun h => by cases h) tkX2_keeperOf)
  | 24, h => cases h; exact g_mok_of (x := 24) rfl rfl (by decide) (g_tok_of (ini := false) (fun h => by cases h) tkX2_readRow)
  | 25, h => cases h; exact g_mok_of (x := 25) rfl rfl (by decide) (g_tok_of (ini := false) (fun h => by cases h) tkX2_envious)
  | 26, h => cases h; exact g_mok_of (x := 26) rfl rfl (by decide) (g_tok_of (ini := false) (fun h => by cases h) tkX2_highest)
  | 27, h => cases h; exact g_mok_of (x := 27) rfl rfl (by decide) (g_tok_of (ini := false) (fun h => by cases h) tkX2_dearest)
  | 28, h => cases h; exact g_mok_of (x := 28) rfl rfl (by decide) (g_tok_of (ini := false) (fun h => by cases h) tkX2_higher)
  | 29, h => cases h; exact g_mok_of (x := 29) rfl rfl (by decide) (g_tok_of (ini := false) (fun h => by cases h) tkX2_dearer)
  | 30, h => cases h; exact g_mok_of (x := 30) rfl rfl (by decide) (g_tok_of (ini := true) (fun _ => rfl) tkX3_init)
  | 31, h => cases h; exact g_mok_of (x := 31) rfl rfl (by decide) (g_tok_of (ini := false) (fun h => by cases h) tkX3_exchangeLaw)
  | 32, h => cases h; exact g_mok_of (x := 32) rfl rfl (by decide) (g_tok_of (ini := false) (fun h => by cases h) tkX3_exchangeRules)
  | 33, h => cases h; exact g_mok_of (x := 33) rfl rfl (by decide) (g_tok_of (ini := false) (fun h => by cases h) tkX3_clauses)
  | 34, h => cases h; exact g_mok_of (x := 34) rfl rfl (by decide) (g_tok_of (ini := false) (fun h => by cases h) tkX3_ruleCount)
  | 35, h => cases h; exact g_mok_of (x := 35) rfl rfl (by decide) (g_tok_of (ini := false) (fun h => by cases h) tkX3_ofGust)
  | 36, h => cases h; exact g_mok_of (x := 36) rfl rfl (by decide) (g_tok_of (ini := false) (fun h => by cases h) tkX3_learns)
  | 37, h => cases h; exact g_mok_of (x := 37) rfl rfl (by decide) (g_tok_of (ini := false) (fun h => by cases h) tkX3_atOdds)
  | 38, h => cases h; exact g_mok_of (x := 38) rfl rfl (by decide) (g_tok_of (ini := false) (fun h => by cases h) tkX3_illness)
  | 39, h => cases h; exact g_mok_of (x := 39) rfl rfl (by decide) (g_tok_of (ini := false) (fun h => by cases h) tkX3_firstBroken)
  | 40, h => cases h; exact g_mok_of (x := 40) rfl rfl (by decide) (g_tok_of (ini := false) (fun h => by cases h) tkX3_lookAtGust)
  | 41, h => cases h; exact g_mok_of (x := 41) rfl rfl (by decide) (g_tok_of (ini := false) (fun h => by cases h) tkX3_lookAtTwo)
  | 42, h => cases h; exact g_mok_of (x := 42) rfl rfl (by decide) (g_tok_of (ini := false) (fun h => by cases h) tkX3_lookAtWard)
  | 43, h => cases h; exact g_mok_of (x := 43) rfl rfl (by decide) (g_tok_of (ini := false) (fun h => by cases h) tkX3_firstAmount)
  | 44, h => cases h; exact g_mok_of (x := 44) rfl rfl (by decide) (g_tok_of (ini := false) (fun h => by cases h) tkX3_anyHolds)
  | 45, h => cases h; exact g_mok_of (x := 45) rfl rfl (by decide) (g_tok_of (ini := true) (fun _ => rfl) tkX4_init)
  | 46, h => cases h; exact g_mok_of (x := 46) rfl rfl (by decide) (g_tok_of (ini := false) (fun h => by cases h) tkX4_lodge)
  | 47, h => cases h; exact g_mok_of (x := 47) rfl rfl (by decide) (g_tok_of (ini := false) (fun h => by cases h) tkX4_staff)
  | 48, h => cases h; exact g_mok_of (x := 48) rfl rfl (by decide) (g_tok_of (ini := false) (fun h => by cases h) tkX4_chosenFor)
  | 49, h => cases h; exact g_mok_of (x := 49) rfl rfl (by decide) (g_tok_of (ini := false) (fun h => by cases h) tkX4_ring)
  | 50, h => cases h; exact g_mok_of (x := 50) rfl rfl (by decide) (g_tok_of (ini := false) (fun h => by cases h) tkX4_ringAt)
  | 51, h => cases h; exact g_mok_of (x := 51) rfl rfl (by decide) (g_tok_of (ini := false) (fun h => by cases h) tkX4_spread)
  | 52, h => cases h; exact g_mok_of (x := 52) rfl rfl (by decide) (g_tok_of (ini := false) (fun h => by cases h) tkX4_learnOdds)
  | 53, h => cases h; exact g_mok_of (x := 53) rfl rfl (by decide) (g_tok_of (ini := false) (fun h => by cases h) tkX4_lodgeFrom)
  | 54, h => cases h; exact g_mok_of (x := 54) rfl rfl (by decide) (g_tok_of (ini := false) (fun h => by cases h) tkX4_staffFrom)
  | 55, h => cases h; exact g_mok_of (x := 55) rfl rfl (by decide) (g_tok_of (ini := false) (fun h => by cases h) tkX4_keepRow)
  | 56, h => cases h; exact g_mok_of (x := 56) rfl rfl (by decide) (g_tok_of (ini := false) (fun h => by cases h) tkX4_waysOn)
  | 57, h => cases h; exact g_mok_of (x := 57) rfl rfl (by decide) (g_tok_of (ini := false) (fun h => by cases h) tkX4_walkFirst)
  | 58, h => cases h; exact g_mok_of (x := 58) rfl rfl (by decide) (g_tok_of (ini := false) (fun h => by cases h) tkX4_firstOn)
  | 59, h => cases h; exact g_mok_of (x := 59) rfl rfl (by decide) (g_tok_of (ini := true) (fun _ => rfl) tkX5_init)
  | 60, h => cases h; exact g_mok_of (x := 60) rfl rfl (by decide) (g_tok_of (ini := false) (fun h => by cases h) tkX5_readText)
  | 61, h => cases h; exact g_mok_of (x := 61) rfl rfl (by decide) (g_tok_of (ini := false) (fun h => by cases h) tkX5_readTimetable)
  | 62, h => cases h; exact g_mok_of (x := 62) rfl rfl (by decide) (g_tok_of (ini := false) (fun h => by cases h) tkX5_begin)
  | 63, h => cases h; exact g_mok_of (x := 63) rfl rfl (by decide) (g_tok_of (ini := false) (fun h => by cases h) tkX5_here)
  | 64, h => cases h; exact g_mok_of (x := 64) rfl rfl (by decide) (g_tok_of (ini := false) (fun h => by cases h) tkX5_fail)
  | 65, h => cases h; exact g_mok_of (x := 65) rfl rfl (by decide) (g_tok_of (ini := false) (fun h => by cases h) tkX5_expect)
  | 66, h => cases h; exact g_mok_of (x := 66) rfl rfl (by decide) (g_tok_of (ini := false) (fun h => by cases h) tkX5_opens)
  | 67, h => cases h; exact g_mok_of (x := 67) rfl rfl (by decide) (g_tok_of (ini := false) (fun h => by cases h) tkX5_readClause)
  | 68, h => cases h; exact g_mok_of (x := 68) rfl rfl (by decide) (g_tok_of (ini := false) (fun h => by cases h) tkX5_readRule)
  | 69, h => cases h; exact g_mok_of (x := 69) rfl rfl (by decide) (g_tok_of (ini := false) (fun h => by cases h) tkX5_readWhole)
  | 70, h => cases h; exact g_mok_of (x := 70) rfl rfl (by decide) (g_tok_of (ini := false) (fun h => by cases h) tkX5_readBracket)
  | 71, h => cases h; exact g_mok_of (x := 71) rfl rfl (by decide) (g_tok_of (ini := false) (fun h => by cases h) tkX5_readCondition)
  | 72, h => cases h; exact g_mok_of (x := 72) rfl rfl (by decide) (g_tok_of (ini := false) (fun h => by cases h) tkX5_readPart)
  | 73, h => cases h; exact g_mok_of (x := 73) rfl rfl (by decide) (g_tok_of (ini := false) (fun h => by cases h) tkX5_readTest)
  | 74, h => cases h; exact g_mok_of (x := 74) rfl rfl (by decide) (g_tok_of (ini := false) (fun h => by cases h) tkX5_readSum)
  | 75, h => cases h; exact g_mok_of (x := 75) rfl rfl (by decide) (g_tok_of (ini := false) (fun h => by cases h) tkX5_readTerm)
  | 76, h => cases h; exact g_mok_of (x := 76) rfl rfl (by decide) (g_tok_of (ini := false) (fun h => by cases h) tkX5_readFactor)
  | 77, h => cases h; exact g_mok_of (x := 77) rfl rfl (by decide) (g_tok_of (ini := false) (fun h => by cases h) tkX5_readNumber)
  | 78, h => cases h; exact g_mok_of (x := 78) rfl rfl (by decide) (g_tok_of (ini := false) (fun h => by cases h) tkX5_readMonths)
  | 79, h => cases h; exact g_mok_of (x := 79) rfl rfl (by decide) (g_tok_of (ini := false) (fun h => by cases h) tkX5_readMonth)
  | 80, h => cases h; exact g_mok_of (x := 80) rfl rfl (by decide) (g_tok_of (ini := false) (fun h => by cases h) tkX5_readGroup)
  | 81, h => cases h; exact g_mok_of (x := 81) rfl rfl (by decide) (g_tok_of (ini := false) (fun h => by cases h) tkX5_writeMonth)
  | 82, h => cases h; exact g_mok_of (x := 82) rfl rfl (by decide) (g_tok_of (ini := false) (fun h => by cases h) tkX5_repeat)
  | 83, h => cases h; exact g_mok_of (x := 83) rfl rfl (by decide) (g_tok_of (ini := true) (fun _ => rfl) tkX6_init)
  | 84, h => cases h; exact g_mok_of (x := 84) rfl rfl (by decide) (g_tok_of (ini := false) (fun h => by cases h) tkX6_order)
  | 85, h => cases h; exact g_mok_of (x := 85) rfl rfl (by decide) (g_tok_of (ini := false) (fun h => by cases h) tkX6_withNeeds)
  | 86, h => cases h; exact g_mok_of (x := 86) rfl rfl (by decide) (g_tok_of (ini := false) (fun h => by cases h) tkX6_lowestReady)
  | 87, h => cases h; exact g_mok_of (x := 87) rfl rfl (by decide) (g_tok_of (ini := true) (fun _ => rfl) tkX7_init)
  | 88, h => cases h; exact g_mok_of (x := 88) rfl rfl (by decide) (g_tok_of (ini := false) (fun h => by cases h) tkX7_hasGust)
  | 89, h => cases h; exact g_mok_of (x := 89) rfl rfl (by decide) (g_tok_of (ini := false) (fun h => by cases h) tkX7_hasNurse)
  | 90, h => cases h; exact g_mok_of (x := 90) rfl rfl (by decide) (g_tok_of (ini := false) (fun h => by cases h) tkX7_works)
  | 91, h => cases h; exact g_mok_of (x := 91) rfl rfl (by decide) (g_tok_of (ini := false) (fun h => by cases h) tkX7_inWard)
  | 92, h => cases h; exact g_mok_of (x := 92) rfl rfl (by decide) (g_tok_of (ini := false) (fun h => by cases h) tkX7_draw)
  | 93, h => cases h; exact g_mok_of (x := 93) rfl rfl (by decide) (g_tok_of (ini := false) (fun h => by cases h) tkX7_copy)
  | 94, h => cases h; exact g_mok_of (x := 94) rfl rfl (by decide) (g_tok_of (ini := true) (fun _ => rfl) tkX8_init)
  | 95, h => cases h; exact g_mok_of (x := 95) rfl rfl (by decide) (g_tok_of (ini := false) (fun h => by cases h) tkX8_takes)
  | 96, h => cases h; exact g_mok_of (x := 96) rfl rfl (by decide) (g_tok_of (ini := false) (fun h => by cases h) tkX8_append)
  | 97, h => cases h; exact g_mok_of (x := 97) rfl rfl (by decide) (g_tok_of (ini := false) (fun h => by cases h) tkX8_at)
  | 98, h => cases h; exact g_mok_of (x := 98) rfl rfl (by decide) (g_tok_of (ini := false) (fun h => by cases h) tkX8_empty)
  | 99, h => cases h; exact g_mok_of (x := 99) rfl rfl (by decide) (g_tok_of (ini := true) (fun _ => rfl) tkX9_init)
  | 100, h => cases h; exact g_mok_of (x := 100) rfl rfl (by decide) (g_tok_of (ini := false) (fun h => by cases h) tkX9_learnFrom)
  | 101, h => cases h; exact g_mok_of (x := 101) rfl rfl (by decide) (g_tok_of (ini := false) (fun h => by cases h) tkX9_lessonAt)
  | 102, h => cases h; exact g_mok_of (x := 102) rfl rfl (by decide) (g_tok_of (ini := false) (fun h => by cases h) tkX9_placeAfter)
  | 103, h => cases h; exact g_mok_of (x := 103) rfl rfl (by decide) (g_tok_of (ini := true) (fun _ => rfl) tkX10_init)
  | 104, h => cases h; exact g_mok_of (x := 104) rfl rfl (by decide) (g_tok_of (ini := false) (fun h => by cases h) tkX10_sendOff)
  | 105, h => cases h; exact g_mok_of (x := 105) rfl rfl (by decide) (g_tok_of (ini := false) (fun h => by cases h) tkX10_windOf)
  | 106, h => cases h; exact g_mok_of (x := 106) rfl rfl (by decide) (g_tok_of (ini := false) (fun h => by cases h) tkX10_sendFrom)
  | 107, h => cases h; exact g_mok_of (x := 107) rfl rfl (by decide) (g_tok_of (ini := false) (fun h => by cases h) tkX10_mayBeat)
  | 108, h => cases h; exact g_mok_of (x := 108) rfl rfl (by decide) (g_tok_of (ini := false) (fun h => by cases h) tkX10_windOfGale)
  | 109, h => cases h; exact g_mok_of (x := 109) rfl rfl (by decide) (g_tok_of (ini := false) (fun h => by cases h) tkX10_carries)
  | 110, h => cases h; exact g_mok_of (x := 110) rfl rfl (by decide) (g_tok_of (ini := true) (fun _ => rfl) tkX11_init)
  | 111, h => cases h; exact g_mok_of (x := 111) rfl rfl (by decide) (g_tok_of (ini := false) (fun h => by cases h) tkX11_gust)
  | 112, h => cases h; exact g_mok_of (x := 112) rfl rfl (by decide) (g_tok_of (ini := false) (fun h => by cases h) tkX11_name)
  | 113, h => cases h; exact g_mok_of (x := 113) rfl rfl (by decide) (g_tok_of (ini := false) (fun h => by cases h) tkX11_moves)
  | 114, h => cases h; exact g_mok_of (x := 114) rfl rfl (by decide) (g_tok_of (ini := false) (fun h => by cases h) tkX11_habit)
  | 115, h => cases h; exact g_mok_of (x := 115) rfl rfl (by decide) (g_tok_of (ini := false) (fun h => by cases h) tkX11_ward)
  | 116, h => cases h; exact g_mok_of (x := 116) rfl rfl (by decide) (g_tok_of (ini := false) (fun h => by cases h) tkX11_nurse)
  | 117, h => cases h; exact g_mok_of (x := 117) rfl rfl (by decide) (g_tok_of (ini := false) (fun h => by cases h) tkX11_needs)
  | 118, h => cases h; exact g_mok_of (x := 118) rfl rfl (by decide) (g_tok_of (ini := false) (fun h => by cases h) tkX11_wind)
  | 119, h => cases h; exact g_mok_of (x := 119) rfl rfl (by decide) (g_tok_of (ini := false) (fun h => by cases h) tkX11_home)
  | 120, h => cases h; exact g_mok_of (x := 120) rfl rfl (by decide) (g_tok_of (ini := false) (fun h => by cases h) tkX11_house)
  | 121, h => cases h; exact g_mok_of (x := 121) rfl rfl (by decide) (g_tok_of (ini := false) (fun h => by cases h) tkX11_seed)
  | 122, h => cases h; exact g_mok_of (x := 122) rfl rfl (by decide) (g_tok_of (ini := false) (fun h => by cases h) tkX11_feed)
  | 123, h => cases h; exact g_mok_of (x := 123) rfl rfl (by decide) (g_tok_of (ini := false) (fun h => by cases h) tkX11_law)
  | 124, h => cases h; exact g_mok_of (x := 124) rfl rfl (by decide) (g_tok_of (ini := false) (fun h => by cases h) tkX11_rules)
  | 125, h => cases h; exact g_mok_of (x := 125) rfl rfl (by decide) (g_tok_of (ini := false) (fun h => by cases h) tkX11_timetable)
  | 126, h => cases h; exact g_mok_of (x := 126) rfl rfl (by decide) (g_tok_of (ini := false) (fun h => by cases h) tkX11_months)
  | 127, h => cases h; exact g_mok_of (x := 127) rfl rfl (by decide) (g_tok_of (ini := false) (fun h => by cases h) tkX11_tried)
  | 128, h => cases h; exact g_mok_of (x := 128) rfl rfl (by decide) (g_tok_of (ini := false) (fun h => by cases h) tkX11_gustIs)
  | 129, h => cases h; exact g_mok_of (x := 129) rfl rfl (by decide) (g_tok_of (ini := false) (fun h => by cases h) tkX11_wardIs)
  | 130, h => cases h; exact g_mok_of (x := 130) rfl rfl (by decide) (g_tok_of (ini := false) (fun h => by cases h) tkX11_nurseIs)
  | 131, h => cases h; exact g_mok_of (x := 131) rfl rfl (by decide) (g_tok_of (ini := false) (fun h => by cases h) tkX11_quarrel)
  | 132, h => cases h; exact g_mok_of (x := 132) rfl rfl (by decide) (g_tok_of (ini := false) (fun h => by cases h) tkX11_count)
  | 133, h => cases h; exact g_mok_of (x := 133) rfl rfl (by decide) (g_tok_of (ini := false) (fun h => by cases h) tkX11_added)
  | 134, h => cases h; exact g_mok_of (x := 134) rfl rfl (by decide) (g_tok_of (ini := false) (fun h => by cases h) tkX11_housed)
  | 135, h => cases h; exact g_mok_of (x := 135) rfl rfl (by decide) (g_tok_of (ini := false) (fun h => by cases h) tkX11_leaving)
  | 136, h => cases h; exact g_mok_of (x := 136) rfl rfl (by decide) (g_tok_of (ini := false) (fun h => by cases h) tkX11_letGo)
  | 137, h => cases h; exact g_mok_of (x := 137) rfl rfl (by decide) (g_tok_of (ini := false) (fun h => by cases h) tkX11_from)
  | 138, h => cases h; exact g_mok_of (x := 138) rfl rfl (by decide) (g_tok_of (ini := false) (fun h => by cases h) tkX11_taught)
  | 139, h => cases h; exact g_mok_of (x := 139) rfl rfl (by decide) (g_tok_of (ini := false) (fun h => by cases h) tkX11_placed)
  | 140, h => cases h; exact g_mok_of (x := 140) rfl rfl (by decide) (g_tok_of (ini := false) (fun h => by cases h) tkX11_fair)
  | 141, h => cases h; exact g_mok_of (x := 141) rfl rfl (by decide) (g_tok_of (ini := false) (fun h => by cases h) tkX11_escaped)
  | 142, h => cases h; exact g_mok_of (x := 142) rfl rfl (by decide) (g_tok_of (ini := false) (fun h => by cases h) tkX11_nursed)
  | 143, h => cases h; exact g_mok_of (x := 143) rfl rfl (by decide) (g_tok_of (ini := false) (fun h => by cases h) tkX11_round)
  | 144, h => cases h; exact g_mok_of (x := 144) rfl rfl (by decide) (g_tok_of (ini := false) (fun h => by cases h) tkX11_keep)
  | 145, h => cases h; exact g_mok_of (x := 145) rfl rfl (by decide) (g_tok_of (ini := false) (fun h => by cases h) tkX11_undo)
  | 146, h => cases h; exact g_mok_of (x := 146) rfl rfl (by decide) (g_tok_of (ini := false) (fun h => by cases h) tkX11_check)
  | 147, h => cases h; exact g_mok_of (x := 147) rfl rfl (by decide) (g_tok_of (ini := false) (fun h => by cases h) tkX11_within)
  | 148, h => cases h; exact g_mok_of (x := 148) rfl rfl (by decide) (g_tok_of (ini := false) (fun h => by cases h) tkX11_isIn)
  | 149, h => cases h; exact g_mok_of (x := 149) rfl rfl (by decide) (g_tok_of (ini := false) (fun h => by cases h) tkX11_placeIn)
  | 150, h => cases h; exact g_mok_of (x := 150) rfl rfl (by decide) (g_tok_of (ini := false) (fun h => by cases h) tkX11_chosen)
  | 151, h => cases h; exact g_mok_of (x := 151) rfl rfl (by decide) (g_tok_of (ini := false) (fun h => by cases h) tkX11_wardAt)
  | 152, h => cases h; exact g_mok_of (x := 152) rfl rfl (by decide) (g_tok_of (ini := false) (fun h => by cases h) tkX11_northward)
  | 153, h => cases h; exact g_mok_of (x := 153) rfl rfl (by decide) (g_tok_of (ini := false) (fun h => by cases h) tkX11_homesLike)
  | 154, h => cases h; exact g_mok_of (x := 154) rfl rfl (by decide) (g_tok_of (ini := false) (fun h => by cases h) tkX11_mostTelling)
  | 155, h => cases h; exact g_mok_of (x := 155) rfl rfl (by decide) (g_tok_of (ini := false) (fun h => by cases h) tkX11_homesWith)
  | 156, h => cases h; exact g_mok_of (x := 156) rfl rfl (by decide) (g_tok_of (ini := false) (fun h => by cases h) tkX11_sought)
  | 157, h => cases h; exact g_mok_of (x := 157) rfl rfl (by decide) (g_tok_of (ini := false) (fun h => by cases h) tkX11_sightingsStand)
  | 158, h => cases h; exact g_mok_of (x := 158) rfl rfl (by decide) (g_tok_of (ini := false) (fun h => by cases h) tkX11_sightingsAgree)
  | 159, h => cases h; exact g_mok_of (x := 159) rfl rfl (by decide) (g_tok_of (ini := true) (fun _ => rfl) tkX12_init)
  | 160, h => cases h; exact g_mok_of (x := 160) rfl rfl (by decide) (g_tok_of (ini := false) (fun h => by cases h) tkX12_lies)
  | 161, h => cases h; exact g_mok_of (x := 161) rfl rfl (by decide) (g_tok_of (ini := false) (fun h => by cases h) tkX12_has)
  | 162, h => cases h; exact g_mok_of (x := 162) rfl rfl (by decide) (g_tok_of (ini := false) (fun h => by cases h) tkX12_sizeOf)
  | 163, h => cases h; exact g_mok_of (x := 163) rfl rfl (by decide) (g_tok_of (ini := false) (fun h => by cases h) tkX12_held)
  | 164, h => cases h; exact g_mok_of (x := 164) rfl rfl (by decide) (g_tok_of (ini := false) (fun h => by cases h) tkX12_push)
  | 165, h => cases h; exact g_mok_of (x := 165) rfl rfl (by decide) (g_tok_of (ini := false) (fun h => by cases h) tkX12_feed)
  | 166, h => cases h; exact g_mok_of (x := 166) rfl rfl (by decide) (g_tok_of (ini := false) (fun h => by cases h) tkX12_byteAt)
  | 167, h => cases h; exact g_mok_of (x := 167) rfl rfl (by decide) (g_tok_of (ini := false) (fun h => by cases h) tkX12_here)
  | 168, h => cases h; exact g_mok_of (x := 168) rfl rfl (by decide) (g_tok_of (ini := false) (fun h => by cases h) tkX12_wrongs)
  | 169, h => cases h; exact g_mok_of (x := 169) rfl rfl (by decide) (g_tok_of (ini := false) (fun h => by cases h) tkX12_isGood)
  | 170, h => cases h; exact g_mok_of (x := 170) rfl rfl (by decide) (g_tok_of (ini := false) (fun h => by cases h) tkX12_seesDigit)
  | 171, h => cases h; exact g_mok_of (x := 171) rfl rfl (by decide) (g_tok_of (ini := false) (fun h => by cases h) tkX12_begins)
  | 172, h => cases h; exact g_mok_of (x := 172) rfl rfl (by decide) (g_tok_of (ini := false) (fun h => by cases h) tkX12_emit)
  | 173, h => cases h; exact g_mok_of (x := 173) rfl rfl (by decide) (g_tok_of (ini := false) (fun h => by cases h) tkX12_top)
  | 174, h => cases h; exact g_mok_of (x := 174) rfl rfl (by decide) (g_tok_of (ini := false) (fun h => by cases h) tkX12_puts)
  | 175, h => cases h; exact g_mok_of (x := 175) rfl rfl (by decide) (g_tok_of (ini := false) (fun h => by cases h) tkX12_opens)
  | 176, h => cases h; exact g_mok_of (x := 176) rfl rfl (by decide) (g_tok_of (ini := false) (fun h => by cases h) tkX12_reads)
  | 177, h => cases h; exact g_mok_of (x := 177) rfl rfl (by decide) (g_tok_of (ini := false) (fun h => by cases h) tkX12_isTimes)
  | 178, h => cases h; exact g_mok_of (x := 178) rfl rfl (by decide) (g_tok_of (ini := false) (fun h => by cases h) tkX12_isPlus)
  | 179, h => cases h; exact g_mok_of (x := 179) rfl rfl (by decide) (g_tok_of (ini := false) (fun h => by cases h) tkX12_isCompared)
  | 180, h => cases h; exact g_mok_of (x := 180) rfl rfl (by decide) (g_tok_of (ini := false) (fun h => by cases h) tkX12_isValue)
  | 181, h => cases h; exact g_mok_of (x := 181) rfl rfl (by decide) (g_tok_of (ini := false) (fun h => by cases h) tkX12_sums)
  | 182, h => cases h; exact g_mok_of (x := 182) rfl rfl (by decide) (g_tok_of (ini := false) (fun h => by cases h) tkX12_joins)
  | 183, h => cases h; exact g_mok_of (x := 183) rfl rfl (by decide) (g_tok_of (ini := false) (fun h => by cases h) tkX12_ends)
  | 184, h => cases h; exact g_mok_of (x := 184) rfl rfl (by decide) (g_tok_of (ini := false) (fun h => by cases h) tkX12_factor)
  | 185, h => cases h; exact g_mok_of (x := 185) rfl rfl (by decide) (g_tok_of (ini := false) (fun h => by cases h) tkX12_stays)
  | 186, h => cases h; exact g_mok_of (x := 186) rfl rfl (by decide) (g_tok_of (ini := false) (fun h => by cases h) tkX12_value)
  | 187, h => cases h; exact g_mok_of (x := 187) rfl rfl (by decide) (g_tok_of (ini := false) (fun h => by cases h) tkX12_pieceOfC)
  | 188, h => cases h; exact g_mok_of (x := 188) rfl rfl (by decide) (g_tok_of (ini := false) (fun h => by cases h) tkX12_goesBehind)
  | 189, h => cases h; exact g_mok_of (x := 189) rfl rfl (by decide) (g_tok_of (ini := false) (fun h => by cases h) tkX12_condition)
  | 190, h => cases h; exact g_mok_of (x := 190) rfl rfl (by decide) (g_tok_of (ini := false) (fun h => by cases h) tkX12_isClause)
  | 191, h => cases h; exact g_mok_of (x := 191) rfl rfl (by decide) (g_tok_of (ini := false) (fun h => by cases h) tkX12_clause)
  | 192, h => cases h; exact g_mok_of (x := 192) rfl rfl (by decide) (g_tok_of (ini := false) (fun h => by cases h) tkX12_takesText)
  | 193, h => cases h; exact g_mok_of (x := 193) rfl rfl (by decide) (g_tok_of (ini := false) (fun h => by cases h) tkX12_law)
  | 194, h => cases h; exact g_mok_of (x := 194) rfl rfl (by decide) (g_tok_of (ini := false) (fun h => by cases h) tkX12_rules)
  | 195, h => cases h; exact g_mok_of (x := 195) rfl rfl (by decide) (g_tok_of (ini := false) (fun h => by cases h) tkX12_valueOf)
  | 196, h => cases h; exact g_mok_of (x := 196) rfl rfl (by decide) (g_tok_of (ini := false) (fun h => by cases h) tkX12_worked)
  | 197, h => cases h; exact g_mok_of (x := 197) rfl rfl (by decide) (g_tok_of (ini := false) (fun h => by cases h) tkX12_does)
  | 198, h => cases h; exact g_mok_of (x := 198) rfl rfl (by decide) (g_tok_of (ini := false) (fun h => by cases h) tkX12_works)
  | 199, h => cases h; exact g_mok_of (x := 199) rfl rfl (by decide) (g_tok_of (ini := false) (fun h => by cases h) tkX12_isSo)
  | 200, h => cases h; exact g_mok_of (x := 200) rfl rfl (by decide) (g_tok_of (ini := false) (fun h => by cases h) tkX12_tells)
  | 201, h => cases h; exact g_mok_of (x := 201) rfl rfl (by decide) (g_tok_of (ini := false) (fun h => by cases h) tkX12_says)
  | 202, h => cases h; exact g_mok_of (x := 202) rfl rfl (by decide) (g_tok_of (ini := false) (fun h => by cases h) tkX12_nothingStands)
  | 203, h => cases h; exact g_mok_of (x := 203) rfl rfl (by decide) (g_tok_of (ini := false) (fun h => by cases h) tkX12_gustStands)
  | 204, h => cases h; exact g_mok_of (x := 204) rfl rfl (by decide) (g_tok_of (ini := false) (fun h => by cases h) tkX12_falling)
  | 205, h => cases h; exact g_mok_of (x := 205) rfl rfl (by decide) (g_tok_of (ini := false) (fun h => by cases h) tkX12_isKeptBy)
  | 206, h => cases h; exact g_mok_of (x := 206) rfl rfl (by decide) (g_tok_of (ini := false) (fun h => by cases h) tkX12_isAngry)
  | 207, h => cases h; exact g_mok_of (x := 207) rfl rfl (by decide) (g_tok_of (ini := false) (fun h => by cases h) tkX12_doQuarrel)
  | 208, h => cases h; exact g_mok_of (x := 208) rfl rfl (by decide) (g_tok_of (ini := false) (fun h => by cases h) tkX12_isTold)
  | 209, h => cases h; exact g_mok_of (x := 209) rfl rfl (by decide) (g_tok_of (ini := false) (fun h => by cases h) tkX12_isWard)
  | 210, h => cases h; exact g_mok_of (x := 210) rfl rfl (by decide) (g_tok_of (ini := false) (fun h => by cases h) tkX12_isThere)
  | 211, h => cases h; exact g_mok_of (x := 211) rfl rfl (by decide) (g_tok_of (ini := false) (fun h => by cases h) tkX12_areHabits)
  | 212, h => cases h; exact g_mok_of (x := 212) rfl rfl (by decide) (g_tok_of (ini := false) (fun h => by cases h) tkX12_isIn)
  | 213, h => cases h; exact g_mok_of (x := 213) rfl rfl (by decide) (g_tok_of (ini := false) (fun h => by cases h) tkX12_manyIn)
  | 214, h => cases h; exact g_mok_of (x := 214) rfl rfl (by decide) (g_tok_of (ini := false) (fun h => by cases h) tkX12_togetherIn)
  | 215, h => cases h; exact g_mok_of (x := 215) rfl rfl (by decide) (g_tok_of (ini := false) (fun h => by cases h) tkX12_gust)
  | 216, h => cases h; exact g_mok_of (x := 216) rfl rfl (by decide) (g_tok_of (ini := false) (fun h => by cases h) tkX12_name)
  | 217, h => cases h; exact g_mok_of (x := 217) rfl rfl (by decide) (g_tok_of (ini := false) (fun h => by cases h) tkX12_moves)
  | 218, h => cases h; exact g_mok_of (x := 218) rfl rfl (by decide) (g_tok_of (ini := false) (fun h => by cases h) tkX12_habit)
  | 219, h => cases h; exact g_mok_of (x := 219) rfl rfl (by decide) (g_tok_of (ini := false) (fun h => by cases h) tkX12_ward)
  | 220, h => cases h; exact g_mok_of (x := 220) rfl rfl (by decide) (g_tok_of (ini := false) (fun h => by cases h) tkX12_nurse)
  | 221, h => cases h; exact g_mok_of (x := 221) rfl rfl (by decide) (g_tok_of (ini := false) (fun h => by cases h) tkX12_needs)
  | 222, h => cases h; exact g_mok_of (x := 222) rfl rfl (by decide) (g_tok_of (ini := false) (fun h => by cases h) tkX12_repeats)
  | 223, h => cases h; exact g_mok_of (x := 223) rfl rfl (by decide) (g_tok_of (ini := false) (fun h => by cases h) tkX12_timesTold)
  | 224, h => cases h; exact g_mok_of (x := 224) rfl rfl (by decide) (g_tok_of (ini := false) (fun h => by cases h) tkX12_monthTold)
  | 225, h => cases h; exact g_mok_of (x := 225) rfl rfl (by decide) (g_tok_of (ini := false) (fun h => by cases h) tkX12_timetable)
  | 226, h => cases h; exact g_mok_of (x := 226) rfl rfl (by decide) (g_tok_of (ini := false) (fun h => by cases h) tkX12_lessonOf)
  | 227, h => cases h; exact g_mok_of (x := 227) rfl rfl (by decide) (g_tok_of (ini := false) (fun h => by cases h) tkX12_draw)
  | 228, h => cases h; exact g_mok_of (x := 228) rfl rfl (by decide) (g_tok_of (ini := false) (fun h => by cases h) tkX12_weakens)
  | 229, h => cases h; exact g_mok_of (x := 229) rfl rfl (by decide) (g_tok_of (ini := false) (fun h => by cases h) tkX12_isWell)
  | 230, h => cases h; exact g_mok_of (x := 230) rfl rfl (by decide) (g_tok_of (ini := false) (fun h => by cases h) tkX12_feeds)
  | 231, h => cases h; exact g_mok_of (x := 231) rfl rfl (by decide) (g_tok_of (ini := false) (fun h => by cases h) tkX12_teaches)
  | 232, h => cases h; exact g_mok_of (x := 232) rfl rfl (by decide) (g_tok_of (ini := false) (fun h => by cases h) tkX12_wardsGo)
  | 233, h => cases h; exact g_mok_of (x := 233) rfl rfl (by decide) (g_tok_of (ini := false) (fun h => by cases h) tkX12_breaks)
  | 234, h => cases h; exact g_mok_of (x := 234) rfl rfl (by decide) (g_tok_of (ini := false) (fun h => by cases h) tkX12_whistle)
  | 235, h => cases h; exact g_mok_of (x := 235) rfl rfl (by decide) (g_tok_of (ini := false) (fun h => by cases h) tkX12_nursesGo)
  | 236, h => cases h; exact g_mok_of (x := 236) rfl rfl (by decide) (g_tok_of (ini := false) (fun h => by cases h) tkX12_judges)
  | 237, h => cases h; exact g_mok_of (x := 237) rfl rfl (by decide) (g_tok_of (ini := false) (fun h => by cases h) tkX12_go)
  | 238, h => cases h; exact g_mok_of (x := 238) rfl rfl (by decide) (g_tok_of (ini := false) (fun h => by cases h) tkX12_months)
  | 239, h => cases h; exact g_mok_of (x := 239) rfl rfl (by decide) (g_tok_of (ini := false) (fun h => by cases h) tkX12_laysAside)
  | 240, h => cases h; exact g_mok_of (x := 240) rfl rfl (by decide) (g_tok_of (ini := false) (fun h => by cases h) tkX12_bringsBack)
  | 241, h => cases h; exact g_mok_of (x := 241) rfl rfl (by decide) (g_tok_of (ini := false) (fun h => by cases h) tkX12_tried)
  | 242, h => cases h; exact g_mok_of (x := 242) rfl rfl (by decide) (g_tok_of (ini := false) (fun h => by cases h) tkX12_orLess)
  | 243, h => cases h; exact g_mok_of (x := 243) rfl rfl (by decide) (g_tok_of (ini := false) (fun h => by cases h) tkX12_gustIs)
  | 244, h => cases h; exact g_mok_of (x := 244) rfl rfl (by decide) (g_tok_of (ini := false) (fun h => by cases h) tkX12_setIn)
  | 245, h => cases h; exact g_mok_of (x := 245) rfl rfl (by decide) (g_tok_of (ini := false) (fun h => by cases h) tkX12_brokenIn)
  | 246, h => cases h; exact g_mok_of (x := 246) rfl rfl (by decide) (g_tok_of (ini := false) (fun h => by cases h) tkX12_wardIs)
  | 247, h => cases h; exact g_mok_of (x := 247) rfl rfl (by decide) (g_tok_of (ini := false) (fun h => by cases h) tkX12_nurseIs)
  | 248, h => cases h; exact g_mok_of (x := 248) rfl rfl (by decide) (g_tok_of (ini := false) (fun h => by cases h) tkX12_quarrel)
  | 249, h => cases h; exact g_mok_of (x := 249) rfl rfl (by decide) (g_tok_of (ini := false) (fun h => by cases h) tkX12_toldGusts)
  | 250, h => cases h; exact g_mok_of (x := 250) rfl rfl (by decide) (g_tok_of (ini := false) (fun h => by cases h) tkX12_areGusts)
  | 251, h => cases h; exact g_mok_of (x := 251) rfl rfl (by decide) (g_tok_of (ini := false) (fun h => by cases h) tkX12_takesSome)
  | 252, h => cases h; exact g_mok_of (x := 252) rfl rfl (by decide) (g_tok_of (ini := false) (fun h => by cases h) tkX12_placeIn)
  | 253, h => cases h; exact g_mok_of (x := 253) rfl rfl (by decide) (g_tok_of (ini := false) (fun h => by cases h) tkX12_powerOf)
  | 254, h => cases h; exact g_mok_of (x := 254) rfl rfl (by decide) (g_tok_of (ini := false) (fun h => by cases h) tkX12_opensRow)
  | 255, h => cases h; exact g_mok_of (x := 255) rfl rfl (by decide) (g_tok_of (ini := false) (fun h => by cases h) tkX12_keepsRow)
  | 256, h => cases h; exact g_mok_of (x := 256) rfl rfl (by decide) (g_tok_of (ini := false) (fun h => by cases h) tkX12_takesPlaces)
  | 257, h => cases h; exact g_mok_of (x := 257) rfl rfl (by decide) (g_tok_of (ini := false) (fun h => by cases h) tkX12_isRoomFor)
  | 258, h => cases h; exact g_mok_of (x := 258) rfl rfl (by decide) (g_tok_of (ini := false) (fun h => by cases h) tkX12_twosIn)
  | 259, h => cases h; exact g_mok_of (x := 259) rfl rfl (by decide) (g_tok_of (ini := false) (fun h => by cases h) tkX12_housed)
  | 260, h => cases h; exact g_mok_of (x := 260) rfl rfl (by decide) (g_tok_of (ini := false) (fun h => by cases h) tkX12_wind)
  | 261, h => cases h; exact g_mok_of (x := 261) rfl rfl (by decide) (g_tok_of (ini := false) (fun h => by cases h) tkX12_canGo)
  | 262, h => cases h; exact g_mok_of (x := 262) rfl rfl (by decide) (g_tok_of (ini := false) (fun h => by cases h) tkX12_canLeave)
  | 263, h => cases h; exact g_mok_of (x := 263) rfl rfl (by decide) (g_tok_of (ini := false) (fun h => by cases h) tkX12_laysLeaving)
  | 264, h => cases h; exact g_mok_of (x := 264) rfl rfl (by decide) (g_tok_of (ini := false) (fun h => by cases h) tkX12_leaving)
  | 265, h => cases h; exact g_mok_of (x := 265) rfl rfl (by decide) (g_tok_of (ini := false) (fun h => by cases h) tkX12_letGo)
  | 266, h => cases h; exact g_mok_of (x := 266) rfl rfl (by decide) (g_tok_of (ini := false) (fun h => by cases h) tkX12_home)
  | 267, h => cases h; exact g_mok_of (x := 267) rfl rfl (by decide) (g_tok_of (ini := false) (fun h => by cases h) tkX12_homesFor)
  | 268, h => cases h; exact g_mok_of (x := 268) rfl rfl (by decide) (g_tok_of (ini := false) (fun h => by cases h) tkX12_greaterPart)
  | 269, h => cases h; exact g_mok_of (x := 269) rfl rfl (by decide) (g_tok_of (ini := false) (fun h => by cases h) tkX12_from)
  | 270, h => cases h; exact g_mok_of (x := 270) rfl rfl (by decide) (g_tok_of (ini := false) (fun h => by cases h) tkX12_laysLessons)
  | 271, h => cases h; exact g_mok_of (x := 271) rfl rfl (by decide) (g_tok_of (ini := false) (fun h => by cases h) tkX12_taught)
  | 272, h => cases h; exact g_mok_of (x := 272) rfl rfl (by decide) (g_tok_of (ini := false) (fun h => by cases h) tkX12_house)
  | 273, h => cases h; exact g_mok_of (x := 273) rfl rfl (by decide) (g_tok_of (ini := false) (fun h => by cases h) tkX12_isHigher)
  | 274, h => cases h; exact g_mok_of (x := 274) rfl rfl (by decide) (g_tok_of (ini := false) (fun h => by cases h) tkX12_isLiked)
  | 275, h => cases h; exact g_mok_of (x := 275) rfl rfl (by decide) (g_tok_of (ini := false) (fun h => by cases h) tkX12_asksNext)
  | 276, h => cases h; exact g_mok_of (x := 276) rfl rfl (by decide) (g_tok_of (ini := false) (fun h => by cases h) tkX12_isAnywhere)
  | 277, h => cases h; exact g_mok_of (x := 277) rfl rfl (by decide) (g_tok_of (ini := false) (fun h => by cases h) tkX12_laysPlaces)
  | 278, h => cases h; exact g_mok_of (x := 278) rfl rfl (by decide) (g_tok_of (ini := false) (fun h => by cases h) tkX12_placed)
  | 279, h => cases h; exact g_mok_of (x := 279) rfl rfl (by decide) (g_tok_of (ini := false) (fun h => by cases h) tkX12_fair)
  | 280, h => cases h; exact g_mok_of (x := 280) rfl rfl (by decide) (g_tok_of (ini := false) (fun h => by cases h) tkX12_lower)
  | 281, h => cases h; exact g_mok_of (x := 281) rfl rfl (by decide) (g_tok_of (ini := false) (fun h => by cases h) tkX12_higher)
  | 282, h => cases h; exact g_mok_of (x := 282) rfl rfl (by decide) (g_tok_of (ini := false) (fun h => by cases h) tkX12_hourOf)
  | 283, h => cases h; exact g_mok_of (x := 283) rfl rfl (by decide) (g_tok_of (ini := false) (fun h => by cases h) tkX12_laysAhead)
  | 284, h => cases h; exact g_mok_of (x := 284) rfl rfl (by decide) (g_tok_of (ini := false) (fun h => by cases h) tkX12_laysBehind)
  | 285, h => cases h; exact g_mok_of (x := 285) rfl rfl (by decide) (g_tok_of (ini := false) (fun h => by cases h) tkX12_escaped)
  | 286, h => cases h; exact g_mok_of (x := 286) rfl rfl (by decide) (g_tok_of (ini := false) (fun h => by cases h) tkX12_isOrder)
  | 287, h => cases h; exact g_mok_of (x := 287) rfl rfl (by decide) (g_tok_of (ini := false) (fun h => by cases h) tkX12_toldNurses)
  | 288, h => cases h; exact g_mok_of (x := 288) rfl rfl (by decide) (g_tok_of (ini := false) (fun h => by cases h) tkX12_nursed)
  | 289, h => cases h; exact g_mok_of (x := 289) rfl rfl (by decide) (g_tok_of (ini := false) (fun h => by cases h) tkX12_laysRing)
  | 290, h => cases h; exact g_mok_of (x := 290) rfl rfl (by decide) (g_tok_of (ini := false) (fun h => by cases h) tkX12_round)
  | 291, h => cases h; exact g_mok_of (x := 291) rfl rfl (by decide) (g_tok_of (ini := false) (fun h => by cases h) tkX12_partOf)
  | 292, h => cases h; exact g_mok_of (x := 292) rfl rfl (by decide) (g_tok_of (ini := false) (fun h => by cases h) tkX12_added)
  | 293, h => cases h; exact g_mok_of (x := 293) rfl rfl (by decide) (g_tok_of (ini := false) (fun h => by cases h) tkX12_seed)
  | 294, h => cases h; exact g_mok_of (x := 294) rfl rfl (by decide) (g_tok_of (ini := false) (fun h => by cases h) tkX12_keep)
  | 295, h => cases h; exact g_mok_of (x := 295) rfl rfl (by decide) (g_tok_of (ini := false) (fun h => by cases h) tkX12_undo)
  | 296, h => cases h; exact g_mok_of (x := 296) rfl rfl (by decide) (g_tok_of (ini := false) (fun h => by cases h) tkX12_check)
  | 297, h => cases h; exact g_mok_of (x := 297) rfl rfl (by decide) (g_tok_of (ini := false) (fun h => by cases h) tkX12_toldOf)
  | 298, h => cases h; exact g_mok_of (x := 298) rfl rfl (by decide) (g_tok_of (ini := false) (fun h => by cases h) tkX12_count)
  | 299, h => cases h; exact g_mok_of (x := 299) rfl rfl (by decide) (g_tok_of (ini := false) (fun h => by cases h) tkJ6_bitCount_0f7a4)
  | 300, h => cases h; exact g_mok_of (x := 300) rfl rfl (by decide) (g_tok_of (ini := false) (fun h => by cases h) tkJ7_fill_53178)
  | n + 301, h => cases h
theorem g_law_ok : g_Tok g_mt (g_cn 13, x, code, 4, some .boolean, g_look2 ttL_law) := g_tok_of (ini := false) (fun h => by cases h) tkL_law
theorem g_oc_ok : ∀ (μ o : Nat) (M : g_M), g_mt μ = some M → g_oc[μ]? = some o → M.1 = g_cn o := by
  intro μ o M h9 h2
  obtain ⟨h0, h⟩ := g_mt_ml h9
  match μ, h, h2 with
  | 0, h, h2 => exact absurd rfl h0
  | 1, h, h2 => cases h; cases h2; rfl
  | 2, h, h2 => cases h; cases h2; rfl
  | 3, h, h2 => cases h; cases h2; rfl
  | 4, h, h2 => cases h; cases h2; rfl
  | 5, h, h2 => cases h; cases h2; rfl
  | 6, h, h2 => cases h; cases h2; rfl
  | 7, h, h2 => cases h; cases h2; rfl
  | 8, h, h2 => cases h; cases h2; rfl
  | 9, h, h2 => cases h; cases h2; rfl
  | 10, h, h2 => cases h; cases h2; rfl
  | 11, h, h2 => cases h; cases h2; rfl
  | 12, h, h2 => cases h; cases h2; rfl
  | 13, h, h2 => cases h; cases h2; rfl
  | 14, h, h2 => cases h; cases h2; rfl
  | 15, h, h2 => cases h; cases h2; rfl
  | 16, h, h2 => cases h; cases h2; rfl
  | 17, h, h2 => cases h; cases h2; rfl
  | 18, h, h2 => cases h; cases h2; rfl
  | 19, h, h2 => cases h; cases h2; rfl
  | 20, h, h2 => cases h; cases h2; rfl
  | 21, h, h2 => cases h; cases h2; rfl
  | 22, h, h2 => cases h; cases h2; rfl
  | 23, h, h2 => cases h; cases h2; rfl
  | 24, h, h2 => cases h; cases h2; rfl
  | 25, h, h2 => cases h; cases h2; rfl
  | 26, h, h2 => cases h; cases h2; rfl
  | 27, h, h2 => cases h; cases h2; rfl
  | 28, h, h2 => cases h; cases h2; rfl
  | 29, h, h2 => cases h; cases h2; rfl
  | 30, h, h2 => cases h; cases h2; rfl
  | 31, h, h2 => cases h; cases h2; rfl
  | 32, h, h2 => cases h; cases h2; rfl
  | 33, h, h2 => cases h; cases h2; rfl
  | 34, h, h2 => cases h; cases h2; rfl
  | 35, h, h2 => cases h; cases h2; rfl
  | 36, h, h2 => cases h; cases h2; rfl
  | 37, h, h2 => cases h; cases h2; rfl
  | 38, h, h2 => cases h; cases h2; rfl
  | 39, h, h2 => cases h; cases h2; rfl
  | 40, h, h2 => cases h; cases h2; rfl
  | 41, h, h2 => cases h; cases h2; rfl
  | 42, h, h2 => cases h; cases h2; rfl
  | 43, h, h2 => cases h; cases h2; rfl
  | 44, h, h2 => cases h; cases h2; rfl
  | 45, h, h2 => cases h; cases h2; rfl
  | 46, h, h2 => cases h; cases h2; rfl
  | 47, h, h2 => cases h; cases h2; rfl
  | 48, h, h2 => cases h; cases h2; rfl
  | 49, h, h2 => cases h; cases h2; rfl
  | 50, h, h2 => cases h; cases h2; rfl
  | 51, h, h2 => cases h; cases h2; rfl
  | 52, h, h2 => cases h; cases h2; rfl
  | 53, h, h2 => cases h; cases h2; rfl
  | 54, h, h2 => cases h; cases h2; rfl
  | 55, h, h2 => cases h; cases h2; rfl
  | 56, h, h2 => cases h; cases h2; rfl
  | 57, h, h2 => cases h; cases h2; rfl
  | 58, h, h2 => cases h; cases h2; rfl
  | 59, h, h2 => cases h; cases h2; rfl
  | 60, h, h2 => cases h; cases h2; rfl
  | 61, h, h2 => cases h; cases h2; rfl
  | 62, h, h2 => cases h; cases h2; rfl
  | 63, h, h2 => cases h; cases h2; rfl
  | 64, h, h2 => cases h; cases h2; rfl
  | 65, h, h2 => cases h; cases h2; rfl
  | 66, h, h2 => cases h; cases h2; rfl
  | 67, h, h2 => cases h; cases h2; rfl
  | 68, h, h2 => cases h; cases h2; rfl
  | 69, h, h2 => cases h; cases h2; rfl
  | 70, h, h2 => cases h; cases h2; rfl
  | 71, h, h2 => cases h; cases h2; rfl
  | 72, h, h2 => cases h; cases h2; rfl
  | 73, h, h2 => cases h; cases h2; rfl
  | 74, h, h2 => cases h; cases h2; rfl
  | 75, h, h2 => cases h; cases h2; rfl
  | 76, h, h2 => cases h; cases h2; rfl
  | 77, h, h2 => cases h; cases h2; rfl
  | 78, h, h2 => cases h; cases h2; rfl
  | 79, h, h2 => cases h; cases h2; rfl
  | 80, h, h2 => cases h; cases h2; rfl
  | 81, h, h2 => cases h; cases h2; rfl
  | 82, h, h2 => cases h; cases h2; rfl
  | 83, h, h2 => cases h; cases h2; rfl
  | 84, h, h2 => cases h; cases h2; rfl
  | 85, h, h2 => cases h; cases h2; rfl
  | 86, h, h2 => cases h; cases h2; rfl
  | 87, h, h2 => cases h; cases h2; rfl
  | 88, h, h2 => cases h; cases h2; rfl
  | 89, h, h2 => cases h; cases h2; rfl
  | 90, h, h2 => cases h; cases h2; rfl
  | 91, h, h2 => cases h; cases h2; rfl
  | 92, h, h2 => cases h; cases h2; rfl
  | 93, h, h2 => cases h; cases h2; rfl
  | 94, h, h2 => cases h; cases h2; rfl
  | 95, h, h2 => cases h; cases h2; rfl
  | 96, h, h2 => cases h; cases h2; rfl
  | 97, h, h2 => cases h; cases h2; rfl
  | 98, h, h2 => cases h; cases h2; rfl
  | 99, h, h2 => cases h; cases h2; rfl
  | 100, h, h2 => cases h; cases h2; rfl
  | 101, h, h2 => cases h; cases h2; rfl
  | 102, h, h2 => cases h; cases h2; rfl
  | 103, h, h2 => cases h; cases h2; rfl
  | 104, h, h2 => cases h; cases h2; rfl
  | 105, h, h2 => cases h; cases h2; rfl
  | 106, h, h2 => cases h; cases h2; rfl
  | 107, h, h2 => cases h; cases h2; rfl
  | 108, h, h2 => cases h; cases h2; rfl
  | 109, h, h2 => cases h; cases h2; rfl
  | 110, h, h2 => cases h; cases h2; rfl
  | 111, h, h2 => cases h; cases h2; rfl
  | 112, h, h2 => cases h; cases h2; rfl
  | 113, h, h2 => cases h; cases h2; rfl
  | 114, h, h2 => cases h; cases h2; rfl
  | 115, h, h2 => cases h; cases h2; rfl
  | 116, h, h2 => cases h; cases h2; rfl
  | 117, h, h2 => cases h; cases h2; rfl
  | 118, h, h2 => cases h; cases h2; rfl
  | 119, h, h2 => cases h; cases h2; rfl
  | 120, h, h2 => cases h; cases h2; rfl
  | 121, h, h2 => cases h; cases h2; rfl
  | 122, h, h2 => cases h; cases h2; rfl
  | 123, h, h2 => cases h; cases h2; rfl
  | 124, h, h2 => cases h; cases h2; rfl
  | 125, h, h2 => cases h; cases h2; rfl
  | 126, h, h2 => cases h; cases h2; rfl
  | 127, h, h2 => cases h; cases h2; rfl
  | 128, h, h2 => cases h; cases h2; rfl
  | 129, h, h2 => cases h; cases h2; rfl
  | 130, h, h2 => cases h; cases h2; rfl
  | 131, h, h2 => cases h; cases h2; rfl
  | 132, h, h2 => cases h; cases h2; rfl
  | 133, h, h2 => cases h; cases h2; rfl
  | 134, h, h2 => cases h; cases h2; rfl
  | 135, h, h2 => cases h; cases h2; rfl
  | 136, h, h2 => cases h; cases h2; rfl
  | 137, h, h2 => cases h; cases h2; rfl
  | 138, h, h2 => cases h; cases h2; rfl
  | 139, h, h2 => cases h; cases h2; rfl
  | 140, h, h2 => cases h; cases h2; rfl
  | 141, h, h2 => cases h; cases h2; rfl
  | 142, h, h2 => cases h; cases h2; rfl
  | 143, h, h2 => cases h; cases h2; rfl
  | 144, h, h2 => cases h; cases h2; rfl
  | 145, h, h2 => cases h; cases h2; rfl
  | 146, h, h2 => cases h; cases h2; rfl
  | 147, h, h2 => cases h; cases h2; rfl
  | 148, h, h2 => cases h; cases h2; rfl
  | 149, h, h2 => cases h; cases h2; rfl
  | 150, h, h2 => cases h; cases h2; rfl
  | 151, h, h2 => cases h; cases h2; rfl
  | 152, h, h2 => cases h; cases h2; rfl
  | 153, h, h2 => cases h; cases h2; rfl
  | 154, h, h2 => cases h; cases h2; rfl
  | 155, h, h2 => cases h; cases h2; rfl
  | 156, h, h2 => cases h; cases h2; rfl
  | 157, h, h2 => cases h; cases h2; rfl
  | 158, h, h2 => cases h; cases h2; rfl
  | 159, h, h2 => cases h; cases h2; rfl
  | 160, h, h2 => cases h; cases h2; rfl
  | 161, h, h2 => cases h; cases h2; rfl
  | 162, h, h2 => cases h; cases h2; rfl
  | 163, h, h2 => cases h; cases h2; rfl
  | 164, h, h2 => cases h; cases h2; rfl
  | 165, h, h2 => cases h; cases h2; rfl
  | 166, h, h2 => cases h; cases h2; rfl
  | 167, h, h2 => cases h; cases h2; rfl
  | 168, h, h2 => cases h; cases h2; rfl
  | 169, h, h2 => cases h; cases h2; rfl
  | 170, h, h2 => cases h; cases h2; rfl
  | 171, h, h2 => cases h; cases h2; rfl
  | 172, h, h2 => cases h; cases h2; rfl
  | 173, h, h2 => cases h; cases h2; rfl
  | 174, h, h2 => cases h; cases h2; rfl
  | 175, h, h2 => cases h; cases h2; rfl
  | 176, h, h2 => cases h; cases h2; rfl
  | 177, h, h2 => cases h; cases h2; rfl
  | 178, h, h2 => cases h; cases h2; rfl
  | 179, h, h2 => cases h; cases h2; rfl
  | 180, h, h2 => cases h; cases h2; rfl
  | 181, h, h2 => cases h; cases h2; rfl
  | 182, h, h2 => cases h; cases h2; rfl
  | 183, h, h2 => cases h; cases h2; rfl
  | 184, h, h2 => cases h; cases h2; rfl
  | 185, h, h2 => cases h; cases h2; rfl
  | 186, h, h2 => cases h; cases h2; rfl
  | 187, h, h2 => cases h; cases h2; rfl
  | 188, h, h2 => cases h; cases h2; rfl
  | 189, h, h2 => cases h; cases h2; rfl
  | 190, h, h2 => cases h; cases h2; rfl
  | 191, h, h2 => cases h; cases h2; rfl
  | 192, h, h2 => cases h; cases h2; rfl
  | 193, h, h2 => cases h; cases h2; rfl
  | 194, h, h2 => cases h; cases h2; rfl
  | 195, h, h2 => cases h; cases h2; rfl
  | 196, h, h2 => cases h; cases h2; rfl
  | 197, h, h2 => cases h; cases h2; rfl
  | 198, h, h2 => cases h; cases h2; rfl
  | 199, h, h2 => cases h; cases h2; rfl
  | 200, h, h2 => cases h; cases h2; rfl
  | 201, h, h2 => cases h; cases h2; rfl
  | 202, h, h2 => cases h; cases h2; rfl
  | 203, h, h2 => cases h; cases h2; rfl
  | 204, h, h2 => cases h; cases h2; rfl
  | 205, h, h2 => cases h; cases h2; rfl
  | 206, h, h2 => cases h; cases h2; rfl
  | 207, h, h2 => cases h; cases h2; rfl
  | 208, h, h2 => cases h; cases h2; rfl
  | 209, h, h2 => cases h; cases h2; rfl
  | 210, h, h2 => cases h; cases h2; rfl
  | 211, h, h2 => cases h; cases h2; rfl
  | 212, h, h2 => cases h; cases h2; rfl
  | 213, h, h2 => cases h; cases h2; rfl
  | 214, h, h2 => cases h; cases h2; rfl
  | 215, h, h2 => cases h; cases h2; rfl
  | 216, h, h2 => cases h; cases h2; rfl
  | 217, h, h2 => cases h; cases h2; rfl
  | 218, h, h2 => cases h; cases h2; rfl
  | 219, h, h2 => cases h; cases h2; rfl
  | 220, h, h2 => cases h; cases h2; rfl
  | 221, h, h2 => cases h; cases h2; rfl
  | 222, h, h2 => cases h; cases h2; rfl
  | 223, h, h2 => cases h; cases h2; rfl
  | 224, h, h2 => cases h; cases h2; rfl
  | 225, h, h2 => cases h; cases h2; rfl
  | 226, h, h2 => cases h; cases h2; rfl
  | 227, h, h2 => cases h; cases h2; rfl
  | 228, h, h2 => cases h; cases h2; rfl
  | 229, h, h2 => cases h; cases h2; rfl
  | 230, h, h2 => cases h; cases h2; rfl
  | 231, h, h2 => cases h; cases h2; rfl
  | 232, h, h2 => cases h; cases h2; rfl
  | 233, h, h2 => cases h; cases h2; rfl
  | 234, h, h2 => cases h; cases h2; rfl
  | 235, h, h2 => cases h; cases h2; rfl
  | 236, h, h2 => cases h; cases h2; rfl
  | 237, h, h2 => cases h; cases h2; rfl
  | 238, h, h2 => cases h; cases h2; rfl
  | 239, h, h2 => cases h; cases h2; rfl
  | 240, h, h2 => cases h; cases h2; rfl
  | 241, h, h2 => cases h; cases h2; rfl
  | 242, h, h2 => cases h; cases h2; rfl
  | 243, h, h2 => cases h; cases h2; rfl
  | 244, h, h2 => cases h; cases h2; rfl
  | 245, h, h2 => cases h; cases h2; rfl
  | 246, h, h2 => cases h; cases h2; rfl
  | 247, h, h2 => cases h; cases h2; rfl
  | 248, h, h2 => cases h; cases h2; rfl
  | 249, h, h2 => cases h; cases h2; rfl
  | 250, h, h2 => cases h; cases h2; rfl
  | 251, h, h2 => cases h; cases h2; rfl
  | 252, h, h2 => cases h; cases h2; rfl
  | 253, h, h2 => cases h; cases h2; rfl
  | 254, h, h2 => cases h; cases h2; rfl
  | 255, h, h2 => cases h; cases h2; rfl
  | 256, h, h2 => cases h; cases h2; rfl
  | 257, h, h2 => cases h; cases h2; rfl
  | 258, h, h2 => cases h; cases h2; rfl
  | 259, h, h2 => cases h; cases h2; rfl
  | 260, h, h2 => cases h; cases h2; rfl
  | 261, h, h2 => cases h; cases h2; rfl
  | 262, h, h2 => cases h; cases h2; rfl
  | 263, h, h2 => cases h; cases h2; rfl
  | 264, h, h2 => cases h; cases h2; rfl
  | 265, h, h2 => cases h; cases h2; rfl
  | 266, h, h2 => cases h; cases h2; rfl
  | 267, h, h2 => cases h; cases h2; rfl
  | 268, h, h2 => cases h; cases h2; rfl
  | 269, h, h2 => cases h; cases h2; rfl
  | 270, h, h2 => cases h; cases h2; rfl
  | 271, h, h2 => cases h; cases h2; rfl
  | 272, h, h2 => cases h; cases h2; rfl
  | 273, h, h2 => cases h; cases h2; rfl
  | 274, h, h2 => cases h; cases h2; rfl
  | 275, h, h2 => cases h; cases h2; rfl
  | 276, h, h2 => cases h; cases h2; rfl
  | 277, h, h2 => cases h; cases h2; rfl
  | 278, h, h2 => cases h; cases h2; rfl
  | 279, h, h2 => cases h; cases h2; rfl
  | 280, h, h2 => cases h; cases h2; rfl
  | 281, h, h2 => cases h; cases h2; rfl
  | 282, h, h2 => cases h; cases h2; rfl
  | 283, h, h2 => cases h; cases h2; rfl
  | 284, h, h2 => cases h; cases h2; rfl
  | 285, h, h2 => cases h; cases h2; rfl
  | 286, h, h2 => cases h; cases h2; rfl
  | 287, h, h2 => cases h; cases h2; rfl
  | 288, h, h2 => cases h; cases h2; rfl
  | 289, h, h2 => cases h; cases h2; rfl
  | 290, h, h2 => cases h; cases h2; rfl
  | 291, h, h2 => cases h; cases h2; rfl
  | 292, h, h2 => cases h; cases h2; rfl
  | 293, h, h2 => cases h; cases h2; rfl
  | 294, h, h2 => cases h; cases h2; rfl
  | 295, h, h2 => cases h; cases h2; rfl
  | 296, h, h2 => cases h; cases h2; rfl
  | 297, h, h2 => cases h; cases h2; rfl
  | 298, h, h2 => cases h; cases h2; rfl
  | 299, h, h2 => cases h; cases h2; rfl
  | 300, h, h2 => cases h; cases h2; rfl
  | n + 301, h, h2 => cases h
