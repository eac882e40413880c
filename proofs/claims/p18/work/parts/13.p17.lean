section Prt17
theorem g_mt_ok : ∀ μ M, g_mt μ = some M → g_Mok g_mt M := by
  intro μ M h9
  obtain ⟨h0, h⟩ := g_mt_ml h9
  match μ, h with
  | 0, h => exact absurd rfl h0
  | 1, h => cases h; exact g_mok_of (x := 1) rfl rfl (by decide) (g_tok_of (ini := true) (fun _ => rfl) tkX0_init)
  | 2, h => cases h; exact g_mok_of (x := 2) rfl rfl (by decide) (g_tok_of (ini := false) (fun h => by cases h) tkX0_go)
  | 3, h => cases h; exact g_mok_of (x := 3) rfl rfl (by decide) (g_tok_of (ini := false) (fun h => by cases h) tkX0_pass)
  | 4, h => cases h; exact g_mok_of (x := 4) rfl rfl (by decide) (g_tok_of (ini := false) (fun h => by cases h) tkX0_weaken)
  | 5, h => cases h; exact g_mok_of (x := 5) rfl rfl (by decide) (g_tok_of (ini := false) (fun h => by cases h) tkX0_strengthen)
  | 6, h => cases h; exact g_mok_of (x := 6) rfl rfl (by decide) (g_tok_of (ini := false) (fun h => by cases h) tkX0_teach)
  | 7, h => cases h; exact g_mok_of (x := 7) rfl rfl (by decide) (g_tok_of (ini := false) (fun h => by cases h) tkX0_breakToys)
  | 8, h => cases h; exact g_mok_of (x := 8) rfl rfl (by decide) (g_tok_of (ini := false) (fun h => by cases h) tkX0_quarrelAll)
  | 9, h => cases h; exact g_mok_of (x := 9) rfl rfl (by decide) (g_tok_of (ini := false) (fun h => by cases h) tkX0_recover)
  | 10, h => cases h; exact g_mok_of (x := 10) rfl rfl (by decide) (g_tok_of (ini := false) (fun h => by cases h) tkX0_sicken)
  | 11, h => cases h; exact g_mok_of (x := 11) rfl rfl (by decide) (g_tok_of (ini := false) (fun h => by cases h) tkX0_askRules)
  | 12, h => cases h; exact g_mok_of (x := 12) rfl rfl (by decide) (g_tok_of (ini := true) (fun _ => rfl) tkX1_init)
  | 13, h => cases h; exact g_mok_of (x := 13) rfl rfl (by decide) (g_tok_of (ini := false) (fun h => by cases h) tkX1_clear)
  | 14, h => cases h; exact g_mok_of (x := 14) rfl rfl (by decide) (g_tok_of (ini := false) (fun h => by cases h) tkX1_openClause)
  | 15, h => cases h; exact g_mok_of (x := 15) rfl rfl (by decide) (g_tok_of (ini := false) (fun h => by cases h) tkX1_openCondition)
  | 16, h => cases h; exact g_mok_of (x := 16) rfl rfl (by decide) (g_tok_of (ini := false) (fun h => by cases h) tkX1_closeClause)
  | 17, h => cases h; exact g_mok_of (x := 17) rfl rfl (by decide) (g_tok_of (ini := false) (fun h => by cases h) tkX1_put)
  | 18, h => cases h; exact g_mok_of (x := 18) rfl rfl (by decide) (g_tok_of (ini := false) (fun h => by cases h) tkX1_land)
  | 19, h => cases h; exact g_mok_of (x := 19) rfl rfl (by decide) (g_tok_of (ini := false) (fun h => by cases h) tkX1_run)
  | 20, h => cases h; exact g_mok_of (x := 20) rfl rfl (by decide) (g_tok_of (ini := false) (fun h => by cases h) tkX1_valueAt)
  | 21, h => cases h; exact g_mok_of (x := 21) rfl rfl (by decide) (g_tok_of (ini := false) (fun h => by cases h) tkX1_join)
  | 22, h => cases h; exact g_mok_of (x := 22) rfl rfl (by decide) (g_tok_of (ini := true) (fun _ => rfl) tkX2_init)
  | 23, h => cases h; exact g_mok_of (x := 23) rfl rfl (by decide) (g_tok_of (ini := false) (fun h => by cases h) tkX2_keeperOf)
  | 24, h => cases h; exact g_mok_of (x := 24) rfl rfl (by decide) (g_tok_of (ini := false) (fun h => by cases h) tkX2_readRow)
  | 25, h => cases h; exact g_mok_of (x := 25) rfl rfl (by decide) (g_tok_of (ini := false) (fun h => by cases h) tkX2_envious)
  | 26, h => cases h; exact g_mok_of (x := 26) rfl rfl (by decide) (g_tok_of (ini := false) (fun h => by cases h) tkX2_highest)
  | 27, h => cases h; exact g_mok_of (x := 27) rfl rfl (by decide) (g_tok_of (ini := false) (fun h => by cases h) tkX2_dearest)
  | 28, h => cases h; exact g_mok_of (x := 28) rfl rfl (by decide) (g_tok_of (ini := false) (fun h => by cases h) tkX2_higher)
  | 29, h => cases h; exact g_mok_of (x := 29) rfl rfl (by decide) (g_tok_of (ini := false) (fun h => by cases h) tkX2_dearer)
  | 30, h => cases h; exact g_mok_of (x := 30) rfl rfl (by decide) (g_tok_of (ini := true) (fun _ => rfl) tkX3_init)
  | 31, h => cases h; exact g_mok_of (x := 31) rfl rfl (by decide) (g_tok_of (ini := false) (fun h => by cases h) tkX3_exchangeLaw)
  | 32, h => cases h; exact g_mok_of (x := 32) rfl rfl (by decide) (g_tok_of (ini := false) (fun h => by cases h) tkX3_exchangeRules)
  | 33, h => cases h; exact g_mok_of (x := 33) rfl rfl (by decide) (g_tok_of (ini := false) (fun h => by cases h) tkX3_clauses)
  | 34, h => cases h; exact g_mok_of (x := 34) rfl rfl (by decide) (g_tok_of (ini := false) (fun h => by cases h) tkX3_ruleCount)
  | 35, h => cases h; exact g_mok_of (x := 35) rfl rfl (by decide) (g_tok_of (ini := false) (fun h => by cases h) tkX3_ofGust)
  | 36, h => cases h; exact g_mok_of (x := 36) rfl rfl (by decide) (g_tok_of (ini := false) (fun h => by cases h) tkX3_learns)
  | 37, h => cases h; exact g_mok_of (x := 37) rfl rfl (by decide) (g_tok_of (ini := false) (fun h => by cases h) tkX3_atOdds)
  | 38, h => cases h; exact g_mok_of (x := 38) rfl rfl (by decide) (g_tok_of (ini := false) (fun h => by cases h) tkX3_illness)
  | 39, h => cases h; exact g_mok_of (x := 39) rfl rfl (by decide) (g_tok_of (ini := false) (fun h => by cases h) tkX3_firstBroken)
  | 40, h => cases h; exact g_mok_of (x := 40) rfl rfl (by decide) (g_tok_of (ini := false) (fun h => by cases h) tkX3_lookAtGust)
  | 41, h => cases h; exact g_mok_of (x := 41) rfl rfl (by decide) (g_tok_of (ini := false) (fun h => by cases h) tkX3_lookAtTwo)
  | 42, h => cases h; exact g_mok_of (x := 42) rfl rfl (by decide) (g_tok_of (ini := false) (fun h => by cases h) tkX3_lookAtWard)
  | 43, h => cases h; exact g_mok_of (x := 43) rfl rfl (by decide) (g_tok_of (ini := false) (fun h => by cases h) tkX3_firstAmount)
  | 44, h => cases h; exact g_mok_of (x := 44) rfl rfl (by decide) (g_tok_of (ini := false) (fun h => by cases h) tkX3_anyHolds)
  | 45, h => cases h; exact g_mok_of (x := 45) rfl rfl (by decide) (g_tok_of (ini := true) (fun _ => rfl) tkX4_init)
  | 46, h => cases h; exact g_mok_of (x := 46) rfl rfl (by decide) (g_tok_of (ini := false) (fun h => by cases h) tkX4_lodge)
  | 47, h => cases h; exact g_mok_of (x := 47) rfl rfl (by decide) (g_tok_of (ini := false) (fun h => by cases h) tkX4_staff)
  | 48, h => cases h; exact g_mok_of (x := 48) rfl rfl (by decide) (g_tok_of (ini := false) (fun h => by cases h) tkX4_chosenFor)
  | 49, h => cases h; exact g_mok_of (x := 49) rfl rfl (by decide) (g_tok_of (ini := false) (fun h => by cases h) tkX4_ring)
  | 50, h => cases h; exact g_mok_of (x := 50) rfl rfl (by decide) (g_tok_of (ini := false) (fun h => by cases h) tkX4_ringAt)
  | 51, h => cases h; exact g_mok_of (x := 51) rfl rfl (by decide) (g_tok_of (ini := false) (fun h => by cases h) tkX4_spread)
  | 52, h => cases h; exact g_mok_of (x := 52) rfl rfl (by decide) (g_tok_of (ini := false) (fun h => by cases h) tkX4_learnOdds)
  | 53, h => cases h; exact g_mok_of (x := 53) rfl rfl (by decide) (g_tok_of (ini := false) (fun h => by cases h) tkX4_lodgeFrom)
  | 54, h => cases h; exact g_mok_of (x := 54) rfl rfl (by decide) (g_tok_of (ini := false) (fun h => by cases h) tkX4_staffFrom)
  | 55, h => cases h; exact g_mok_of (x := 55) rfl rfl (by decide) (g_tok_of (ini := false) (fun h => by cases h) tkX4_keepRow)
  | 56, h => cases h; exact g_mok_of (x := 56) rfl rfl (by decide) (g_tok_of (ini := false) (fun h => by cases h) tkX4_waysOn)
  | 57, h => cases h; exact g_mok_of (x := 57) rfl rfl (by decide) (g_tok_of (ini := false) (fun h => by cases h) tkX4_walkFirst)
  | 58, h => cases h; exact g_mok_of (x := 58) rfl rfl (by decide) (g_tok_of (ini := false) (fun h => by cases h) tkX4_firstOn)
  | 59, h => cases h; exact g_mok_of (x := 59) rfl rfl (by decide) (g_tok_of (ini := true) (fun _ => rfl) tkX5_init)
  | 60, h => cases h; exact g_mok_of (x := 60) rfl rfl (by decide) (g_tok_of (ini := false) (fun h => by cases h) tkX5_readText)
  | 61, h => cases h; exact g_mok_of (x := 61) rfl rfl (by decide) (g_tok_of (ini := false) (fun h => by cases h) tkX5_readTimetable)
  | 62, h => cases h; exact g_mok_of (x := 62) rfl rfl (by decide) (g_tok_of (ini := false) (fun h => by cases h) tkX5_begin)
  | 63, h => cases h; exact g_mok_of (x := 63) rfl rfl (by decide) (g_tok_of (ini := false) (fun h => by cases h) tkX5_here)
  | 64, h => cases h; exact g_mok_of (x := 64) rfl rfl (by decide) (g_tok_of (ini := false) (fun h => by cases h) tkX5_fail)
  | 65, h => cases h; exact g_mok_of (x := 65) rfl rfl (by decide) (g_tok_of (ini := false) (fun h => by cases h) tkX5_expect)
  | 66, h => cases h; exact g_mok_of (x := 66) rfl rfl (by decide) (g_tok_of (ini := false) (fun h => by cases h) tkX5_opens)
  | 67, h => cases h; exact g_mok_of (x := 67) rfl rfl (by decide) (g_tok_of (ini := false) (fun h => by cases h) tkX5_readClause)
  | 68, h => cases h; exact g_mok_of (x := 68) rfl rfl (by decide) (g_tok_of (ini := false) (fun h => by cases h) tkX5_readRule)
  | 69, h => cases h; exact g_mok_of (x := 69) rfl rfl (by decide) (g_tok_of (ini := false) (fun h => by cases h) tkX5_readWhole)
  | 70, h => cases h; exact g_mok_of (x := 70) rfl rfl (by decide) (g_tok_of (ini := false) (fun h => by cases h) tkX5_readBracket)
  | 71, h => cases h; exact g_mok_of (x := 71) rfl rfl (by decide) (g_tok_of (ini := false) (fun h => by cases h) tkX5_readCondition)
  | 72, h => cases h; exact g_mok_of (x := 72) rfl rfl (by decide) (g_tok_of (ini := false) (fun h => by cases h) tkX5_readPart)
  | 73, h => cases h; exact g_mok_of (x := 73) rfl rfl (by decide) (g_tok_of (ini := false) (fun h => by cases h) tkX5_readTest)
  | 74, h => cases h; exact g_mok_of (x := 74) rfl rfl (by decide) (g_tok_of (ini := false) (fun h => by cases h) tkX5_readSum)
  | 75, h => cases h; exact g_mok_of (x := 75) rfl rfl (by decide) (g_tok_of (ini := false) (fun h => by cases h) tkX5_readTerm)
  | 76, h => cases h; exact g_mok_of (x := 76) rfl rfl (by decide) (g_tok_of (ini := false) (fun h => by cases h) tkX5_readFactor)
  | 77, h => cases h; exact g_mok_of (x := 77) rfl rfl (by decide) (g_tok_of (ini := false) (fun h => by cases h) tkX5_readNumber)
  | 78, h => cases h; exact g_mok_of (x := 78) rfl rfl (by decide) (g_tok_of (ini := false) (fun h => by cases h) tkX5_readMonths)
  | 79, h => cases h; exact g_mok_of (x := 79) rfl rfl (by decide) (g_tok_of (ini := false) (fun h => by cases h) tkX5_readMonth)
  | 80, h => cases h; exact g_mok_of (x := 80) rfl rfl (by decide) (g_tok_of (ini := false) (fun h => by cases h) tkX5_readGroup)
  | 81, h => cases h; exact g_mok_of (x := 81) rfl rfl (by decide) (g_tok_of (ini := false) (fun h => by cases h) tkX5_writeMonth)
  | 82, h => cases h; exact g_mok_of (x := 82) rfl rfl (by decide) (g_tok_of (ini := false) (fun h => by cases h) tkX5_repeat)
  | 83, h => cases h; exact g_mok_of (x := 83) rfl rfl (by decide) (g_tok_of (ini := true) (fun _ => rfl) tkX6_init)
  | 84, h => cases h; exact g_mok_of (x := 84) rfl rfl (by decide) (g_tok_of (ini := false) (fun h => by cases h) tkX6_order)
  | 85, h => cases h; exact g_mok_of (x := 85) rfl rfl (by decide) (g_tok_of (ini := false) (fun h => by cases h) tkX6_withNeeds)
  | 86, h => cases h; exact g_mok_of (x := 86) rfl rfl (by decide) (g_tok_of (ini := false) (fun h => by cases h) tkX6_lowestReady)
  | 87, h => cases h; exact g_mok_of (x := 87) rfl rfl (by decide) (g_tok_of (ini := true) (fun _ => rfl) tkX7_init)
  | 88, h => cases h; exact g_mok_of (x := 88) rfl rfl (by decide) (g_tok_of (ini := false) (fun h => by cases h) tkX7_hasGust)
  | 89, h => cases h; exact g_mok_of (x := 89) rfl rfl (by decide) (g_tok_of (ini := false) (fun h => by cases h) tkX7_hasNurse)
  | 90, h => cases h; exact g_mok_of (x := 90) rfl rfl (by decide) (g_tok_of (ini := false) (fun h => by cases h) tkX7_works)
  | 91, h => cases h; exact g_mok_of (x := 91) rfl rfl (by decide) (g_tok_of (ini := false) (fun h => by cases h) tkX7_inWard)
  | 92, h => cases h; exact g_mok_of (x := 92) rfl rfl (by decide) (g_tok_of (ini := false) (fun h => by cases h) tkX7_draw)
  | 93, h => cases h; exact g_mok_of (x := 93) rfl rfl (by decide) (g_tok_of (ini := false) (fun h => by cases h) tkX7_copy)
  | 94, h => cases h; exact g_mok_of (x := 94) rfl rfl (by decide) (g_tok_of (ini := true) (fun _ => rfl) tkX8_init)
  | 95, h => cases h; exact g_mok_of (x := 95) rfl rfl (by decide) (g_tok_of (ini := false) (fun h => by cases h) tkX8_takes)
  | 96, h => cases h; exact g_mok_of (x := 96) rfl rfl (by decide) (g_tok_of (ini := false) (fun h => by cases h) tkX8_append)
  | 97, h => cases h; exact g_mok_of (x := 97) rfl rfl (by decide) (g_tok_of (ini := false) (fun h => by cases h) tkX8_at)
  | 98, h => cases h; exact g_mok_of (x := 98) rfl rfl (by decide) (g_tok_of (ini := false) (fun h => by cases h) tkX8_empty)
  | 99, h => cases h; exact g_mok_of (x := 99) rfl rfl (by decide) (g_tok_of (ini := true) (fun _ => rfl) tkX9_init)
  | 100, h => cases h; exact g_mok_of (x := 100) rfl rfl (by decide) (g_tok_of (ini := false) (fun h => by cases h) tkX9_learnFrom)
  | 101, h => cases h; exact g_mok_of (x := 101) rfl rfl (by decide) (g_tok_of (ini := false) (fun h => by cases h) tkX9_lessonAt)
  | 102, h => cases h; exact g_mok_of (x := 102) rfl rfl (by decide) (g_tok_of (ini := false) (fun h => by cases h) tkX9_placeAfter)
  | 103, h => cases h; exact g_mok_of (x := 103) rfl rfl (by decide) (g_tok_of (ini := true) (fun _ => rfl) tkX10_init)
  | 104, h => cases h; exact g_mok_of (x := 104) rfl rfl (by decide) (g_tok_of (ini := false) (fun h => by cases h) tkX10_sendOff)
  | 105, h => cases h; exact g_mok_of (x := 105) rfl rfl (by decide) (g_tok_of (ini := false) (fun h => by cases h) tkX10_windOf)
  | 106, h => cases h; exact g_mok_of (x := 106) rfl rfl (by decide) (g_tok_of (ini := false) (fun h => by cases h) tkX10_sendFrom)
  | 107, h => cases h; exact g_mok_of (x := 107) rfl rfl (by decide) (g_tok_of (ini := false) (fun h => by cases h) tkX10_mayBeat)
  | 108, h => cases h; exact g_mok_of (x := 108) rfl rfl (by decide) (g_tok_of (ini := false) (fun h => by cases h) tkX10_windOfGale)
  | 109, h => cases h; exact g_mok_of (x := 109) rfl rfl (by decide) (g_tok_of (ini := false) (fun h => by cases h) tkX10_carries)
  | 110, h => cases h; exact g_mok_of (x := 110) rfl rfl (by decide) (g_tok_of (ini := true) (fun _ => rfl) tkX11_init)
  | 111, h => cases h; exact g_mok_of (x := 111) rfl rfl (by decide) (g_tok_of (ini := false) (fun h => by cases h) tkX11_gust)
  | 112, h => cases h; exact g_mok_of (x := 112) rfl rfl (by decide) (g_tok_of (ini := false) (fun h => by cases h) tkX11_name)
  | 113, h => cases h; exact g_mok_of (x := 113) rfl rfl (by decide) (g_tok_of (ini := false) (fun h => by cases h) tkX11_moves)
  | 114, h => cases h; exact g_mok_of (x := 114) rfl rfl (by decide) (g_tok_of (ini := false) (fun h => by cases h) tkX11_habit)
  | 115, h => cases h; exact g_mok_of (x := 115) rfl rfl (by decide) (g_tok_of (ini := false) (fun h => by cases h) tkX11_ward)
  | 116, h => cases h; exact g_mok_of (x := 116) rfl rfl (by decide) (g_tok_of (ini := false) (fun h => by cases h) tkX11_nurse)
  | 117, h => cases h; exact g_mok_of (x := 117) rfl rfl (by decide) (g_tok_of (ini := false) (fun h => by cases h) tkX11_needs)
  | 118, h => cases h; exact g_mok_of (x := 118) rfl rfl (by decide) (g_tok_of (ini := false) (fun h => by cases h) tkX11_wind)
  | 119, h => cases h; exact g_mok_of (x := 119) rfl rfl (by decide) (g_tok_of (ini := false) (fun h => by cases h) tkX11_home)
  | 120, h => cases h; exact g_mok_of (x := 120) rfl rfl (by decide) (g_tok_of (ini := false) (fun h => by cases h) tkX11_house)
  | 121, h => cases h; exact g_mok_of (x := 121) rfl rfl (by decide) (g_tok_of (ini := false) (fun h => by cases h) tkX11_seed)
  | 122, h => cases h; exact g_mok_of (x := 122) rfl rfl (by decide) (g_tok_of (ini := false) (fun h => by cases h) tkX11_feed)
  | 123, h => cases h; exact g_mok_of (x := 123) rfl rfl (by decide) (g_tok_of (ini := false) (fun h => by cases h) tkX11_law)
  | 124, h => cases h; exact g_mok_of (x := 124) rfl rfl (by decide) (g_tok_of (ini := false) (fun h => by cases h) tkX11_rules)
  | 125, h => cases h; exact g_mok_of (x := 125) rfl rfl (by decide) (g_tok_of (ini := false) (fun h => by cases h) tkX11_timetable)
  | 126, h => cases h; exact g_mok_of (x := 126) rfl rfl (by decide) (g_tok_of (ini := false) (fun h => by cases h) tkX11_months)
  | 127, h => cases h; exact g_mok_of (x := 127) rfl rfl (by decide) (g_tok_of (ini := false) (fun h => by cases h) tkX11_tried)
  | 128, h => cases h; exact g_mok_of (x := 128) rfl rfl (by decide) (g_tok_of (ini := false) (fun h => by cases h) tkX11_gustIs)
  | 129, h => cases h; exact g_mok_of (x := 129) rfl rfl (by decide) (g_tok_of (ini := false) (fun h => by cases h) tkX11_wardIs)
  | 130, h => cases h; exact g_mok_of (x := 130) rfl rfl (by decide) (g_tok_of (ini := false) (fun h => by cases h) tkX11_nurseIs)
  | 131, h => cases h; exact g_mok_of (x := 131) rfl rfl (by decide) (g_tok_of (ini := false) (fun h => by cases h) tkX11_quarrel)
  | 132, h => cases h; exact g_mok_of (x := 132) rfl rfl (by decide) (g_tok_of (ini := false) (fun h => by cases h) tkX11_count)
  | 133, h => cases h; exact g_mok_of (x := 133) rfl rfl (by decide) (g_tok_of (ini := false) (fun h => by cases h) tkX11_added)
  | 134, h => cases h; exact g_mok_of (x := 134) rfl rfl (by decide) (g_tok_of (ini := false) (fun h => by cases h) tkX11_housed)
  | 135, h => cases h; exact g_mok_of (x := 135) rfl rfl (by decide) (g_tok_of (ini := false) (fun h => by cases h) tkX11_leaving)
  | 136, h => cases h; exact g_mok_of (x := 136) rfl rfl (by decide) (g_tok_of (ini := false) (fun h => by cases h) tkX11_letGo)
  | 137, h => cases h; exact g_mok_of (x := 137) rfl rfl (by decide) (g_tok_of (ini := false) (fun h => by cases h) tkX11_from)
  | 138, h => cases h; exact g_mok_of (x := 138) rfl rfl (by decide) (g_tok_of (ini := false) (fun h => by cases h) tkX11_taught)
  | 139, h => cases h; exact g_mok_of (x := 139) rfl rfl (by decide) (g_tok_of (ini := false) (fun h => by cases h) tkX11_placed)
  | 140, h => cases h; exact g_mok_of (x := 140) rfl rfl (by decide) (g_tok_of (ini := false) (fun h => by cases h) tkX11_fair)
  | 141, h => cases h; exact g_mok_of (x := 141) rfl rfl (by decide) (g_tok_of (ini := false) (fun h => by cases h) tkX11_escaped)
  | 142, h => cases h; exact g_mok_of (x := 142) rfl rfl (by decide) (g_tok_of (ini := false) (fun h => by cases h) tkX11_nursed)
  | 143, h => cases h; exact g_mok_of (x := 143) rfl rfl (by decide) (g_tok_of (ini := false) (fun h => by cases h) tkX11_round)
  | 144, h => cases h; exact g_mok_of (x := 144) rfl rfl (by decide) (g_tok_of (ini := false) (fun h => by cases h) tkX11_keep)
  | 145, h => cases h; exact g_mok_of (x := 145) rfl rfl (by decide) (g_tok_of (ini := false) (fun h => by cases h) tkX11_undo)
  | 146, h => cases h; exact g_mok_of (x := 146) rfl rfl (by decide) (g_tok_of (ini := false) (fun h => by cases h) tkX11_check)
  | 147, h => cases h; exact g_mok_of (x := 147) rfl rfl (by decide) (g_tok_of (ini := false) (fun h => by cases h) tkX11_within)
  | 148, h => cases h; exact g_mok_of (x := 148) rfl rfl (by decide) (g_tok_of (ini := false) (fun h => by cases h) tkX11_isIn)
  | 149, h => cases h; exact g_mok_of (x := 149) rfl rfl (by decide) (g_tok_of (ini := false) (fun h => by cases h) tkX11_placeIn)
  | 150, h => cases h; exact g_mok_of (x := 150) rfl rfl (by decide) (g_tok_of (ini := false) (fun h => by cases h) tkX11_chosen)
  | 151, h => cases h; exact g_mok_of (x := 151) rfl rfl (by decide) (g_tok_of (ini := false) (fun h => by cases h) tkX11_wardAt)
  | 152, h => cases h; exact g_mok_of (x := 152) rfl rfl (by decide) (g_tok_of (ini := false) (fun h => by cases h) tkX11_northward)
  | 153, h => cases h; exact g_mok_of (x := 153) rfl rfl (by decide) (g_tok_of (ini := false) (fun h => by cases h) tkX11_homesLike)
  | 154, h => cases h; exact g_mok_of (x := 154) rfl rfl (by decide) (g_tok_of (ini := false) (fun h => by cases h) tkX11_mostTelling)
  | 155, h => cases h; exact g_mok_of (x := 155) rfl rfl (by decide) (g_tok_of (ini := false) (fun h => by cases h) tkX11_homesWith)
  | 156, h => cases h; exact g_mok_of (x := 156) rfl rfl (by decide) (g_tok_of (ini := false) (fun h => by cases h) tkX11_sought)
  | 157, h => cases h; exact g_mok_of (x := 157) rfl rfl (by decide) (g_tok_of (ini := false) (fun h => by cases h) tkX11_sightingsStand)
  | 158, h => cases h; exact g_mok_of (x := 158) rfl rfl (by decide) (g_tok_of (ini := false) (fun h => by cases h) tkX11_sightingsAgree)
  | 159, h => cases h; exact g_mok_of (x := 159) rfl rfl (by decide) (g_tok_of (ini := true) (fun _ => rfl) tkX12_init)
  | 160, h => cases h; exact g_mok_of (x := 160) rfl rfl (by decide) (g_tok_of (ini := false) (fun h => by cases h) tkX12_lies)
  | 161, h => cases h; exact g_mok_of (x := 161) rfl rfl (by decide) (g_tok_of (ini := false) (fun h => by cases h) tkX12_has)
  | 162, h => cases h; exact g_mok_of (x := 162) rfl rfl (by decide) (g_tok_of (ini := false) (fun h => by cases h) tkX12_sizeOf)
  | 163, h => cases h; exact g_mok_of (x := 163) rfl rfl (by decide) (g_tok_of (ini := false) (fun h => by cases h) tkX12_held)
  | 164, h => cases h; exact g_mok_of (x := 164) rfl rfl (by decide) (g_tok_of (ini := false) (fun h => by cases h) tkX12_push)
  | 165, h => cases h; exact g_mok_of (x := 165) rfl rfl (by decide) (g_tok_of (ini := false) (fun h => by cases h) tkX12_feed)
  | 166, h => cases h; exact g_mok_of (x := 166) rfl rfl (by decide) (g_tok_of (ini := false) (fun h => by cases h) tkX12_byteAt)
  | 167, h => cases h; exact g_mok_of (x := 167) rfl rfl (by decide) (g_tok_of (ini := false) (fun h => by cases h) tkX12_here)
  | 168, h => cases h; exact g_mok_of (x := 168) rfl rfl (by decide) (g_tok_of (ini := false) (fun h => by cases h) tkX12_wrongs)
  | 169, h => cases h; exact g_mok_of (x := 169) rfl rfl (by decide) (g_tok_of (ini := false) (fun h => by cases h) tkX12_isGood)
  | 170, h => cases h; exact g_mok_of (x := 170) rfl rfl (by decide) (g_tok_of (ini := false) (fun h => by cases h) tkX12_seesDigit)
  | 171, h => cases h; exact g_mok_of (x := 171) rfl rfl (by decide) (g_tok_of (ini := false) (fun h => by cases h) tkX12_begins)
  | 172, h => cases h; exact g_mok_of (x := 172) rfl rfl (by decide) (g_tok_of (ini := false) (fun h => by cases h) tkX12_emit)
  | 173, h => cases h; exact g_mok_of (x := 173) rfl rfl (by decide) (g_tok_of (ini := false) (fun h => by cases h) tkX12_top)
  | 174, h => cases h; exact g_mok_of (x := 174) rfl rfl (by decide) (g_tok_of (ini := false) (fun h => by cases h) tkX12_puts)
  | 175, h => cases h; exact g_mok_of (x := 175) rfl rfl (by decide) (g_tok_of (ini := false) (fun h => by cases h) tkX12_opens)
  | 176, h => cases h; exact g_mok_of (x := 176) rfl rfl (by decide) (g_tok_of (ini := false) (fun h => by cases h) tkX12_reads)
  | 177, h => cases h; exact g_mok_of (x := 177) rfl rfl (by decide) (g_tok_of (ini := false) (fun h => by cases h) tkX12_isTimes)
  | 178, h => cases h; exact g_mok_of (x := 178) rfl rfl (by decide) (g_tok_of (ini := false) (fun h => by cases h) tkX12_isPlus)
  | 179, h => cases h; exact g_mok_of (x := 179) rfl rfl (by decide) (g_tok_of (ini := false) (fun h => by cases h) tkX12_isCompared)
  | 180, h => cases h; exact g_mok_of (x := 180) rfl rfl (by decide) (g_tok_of (ini := false) (fun h => by cases h) tkX12_isValue)
  | 181, h => cases h; exact g_mok_of (x := 181) rfl rfl (by decide) (g_tok_of (ini := false) (fun h => by cases h) tkX12_sums)
  | 182, h => cases h; exact g_mok_of (x := 182) rfl rfl (by decide) (g_tok_of (ini := false) (fun h => by cases h) tkX12_joins)
  | 183, h => cases h; exact g_mok_of (x := 183) rfl rfl (by decide) (g_tok_of (ini := false) (fun h => by cases h) tkX12_ends)
  | 184, h => cases h; exact g_mok_of (x := 184) rfl rfl (by decide) (g_tok_of (ini := false) (fun h => by cases h) tkX12_factor)
  | 185, h => cases h; exact g_mok_of (x := 185) rfl rfl (by decide) (g_tok_of (ini := false) (fun h => by cases h) tkX12_stays)
  | 186, h => cases h; exact g_mok_of (x := 186) rfl rfl (by decide) (g_tok_of (ini := false) (fun h => by cases h) tkX12_value)
  | 187, h => cases h; exact g_mok_of (x := 187) rfl rfl (by decide) (g_tok_of (ini := false) (fun h => by cases h) tkX12_pieceOfC)
  | 188, h => cases h; exact g_mok_of (x := 188) rfl rfl (by decide) (g_tok_of (ini := false) (fun h => by cases h) tkX12_goesBehind)
  | 189, h => cases h; exact g_mok_of (x := 189) rfl rfl (by decide) (g_tok_of (ini := false) (fun h => by cases h) tkX12_condition)
  | 190, h => cases h; exact g_mok_of (x := 190) rfl rfl (by decide) (g_tok_of (ini := false) (fun h => by cases h) tkX12_isClause)
  | 191, h => cases h; exact g_mok_of (x := 191) rfl rfl (by decide) (g_tok_of (ini := false) (fun h => by cases h) tkX12_clause)
  | 192, h => cases h; exact g_mok_of (x := 192) rfl rfl (by decide) (g_tok_of (ini := false) (fun h => by cases h) tkX12_takesText)
  | 193, h => cases h; exact g_mok_of (x := 193) rfl rfl (by decide) (g_tok_of (ini := false) (fun h => by cases h) tkX12_law)
  | 194, h => cases h; exact g_mok_of (x := 194) rfl rfl (by decide) (g_tok_of (ini := false) (fun h => by cases h) tkX12_rules)
  | 195, h => cases h; exact g_mok_of (x := 195) rfl rfl (by decide) (g_tok_of (ini := false) (fun h => by cases h) tkX12_valueOf)
  | 196, h => cases h; exact g_mok_of (x := 196) rfl rfl (by decide) (g_tok_of (ini := false) (fun h => by cases h) tkX12_worked)
  | 197, h => cases h; exact g_mok_of (x := 197) rfl rfl (by decide) (g_tok_of (ini := false) (fun h => by cases h) tkX12_does)
  | 198, h => cases h; exact g_mok_of (x := 198) rfl rfl (by decide) (g_tok_of (ini := false) (fun h => by cases h) tkX12_works)
  | 199, h => cases h; exact g_mok_of (x := 199) rfl rfl (by decide) (g_tok_of (ini := false) (fun h => by cases h) tkX12_isSo)
  | 200, h => cases h; exact g_mok_of (x := 200) rfl rfl (by decide) (g_tok_of (ini := false) (fun h => by cases h) tkX12_tells)
  | 201, h => cases h; exact g_mok_of (x := 201) rfl rfl (by decide) (g_tok_of (ini := false) (fun h => by cases h) tkX12_says)
  | 202, h => cases h; exact g_mok_of (x := 202) rfl rfl (by decide) (g_tok_of (ini := false) (fun h => by cases h) tkX12_nothingStands)
  | 203, h => cases h; exact g_mok_of (x := 203) rfl rfl (by decide) (g_tok_of (ini := false) (fun h => by cases h) tkX12_gustStands)
  | 204, h => cases h; exact g_mok_of (x := 204) rfl rfl (by decide) (g_tok_of (ini := false) (fun h => by cases h) tkX12_falling)
  | 205, h => cases h; exact g_mok_of (x := 205) rfl rfl (by decide) (g_tok_of (ini := false) (fun h => by cases h) tkX12_isKeptBy)
  | 206, h => cases h; exact g_mok_of (x := 206) rfl rfl (by decide) (g_tok_of (ini := false) (fun h => by cases h) tkX12_isAngry)
  | 207, h => cases h; exact g_mok_of (x := 207) rfl rfl (by decide) (g_tok_of (ini := false) (fun h => by cases h) tkX12_doQuarrel)
  | 208, h => cases h; exact g_mok_of (x := 208) rfl rfl (by decide) (g_tok_of (ini := false) (fun h => by cases h) tkX12_isTold)
  | 209, h => cases h; exact g_mok_of (x := 209) rfl rfl (by decide) (g_tok_of (ini := false) (fun h => by cases h) tkX12_isWard)
  | 210, h => cases h; exact g_mok_of (x := 210) rfl rfl (by decide) (g_tok_of (ini := false) (fun h => by cases h) tkX12_isThere)
  | 211, h => cases h; exact g_mok_of (x := 211) rfl rfl (by decide) (g_tok_of (ini := false) (fun h => by cases h) tkX12_areHabits)
  | 212, h => cases h; exact g_mok_of (x := 212) rfl rfl (by decide) (g_tok_of (ini := false) (fun h => by cases h) tkX12_isIn)
  | 213, h => cases h; exact g_mok_of (x := 213) rfl rfl (by decide) (g_tok_of (ini := false) (fun h => by cases h) tkX12_manyIn)
  | 214, h => cases h; exact g_mok_of (x := 214) rfl rfl (by decide) (g_tok_of (ini := false) (fun h => by cases h) tkX12_togetherIn)
  | 215, h => cases h; exact g_mok_of (x := 215) rfl rfl (by decide) (g_tok_of (ini := false) (fun h => by cases h) tkX12_gust)
  | 216, h => cases h; exact g_mok_of (x := 216) rfl rfl (by decide) (g_tok_of (ini := false) (fun h => by cases h) tkX12_name)
  | 217, h => cases h; exact g_mok_of (x := 217) rfl rfl (by decide) (g_tok_of (ini := false) (fun h => by cases h) tkX12_moves)
  | 218, h => cases h; exact g_mok_of (x := 218) rfl rfl (by decide) (g_tok_of (ini := false) (fun h => by cases h) tkX12_habit)
  | 219, h => cases h; exact g_mok_of (x := 219) rfl rfl (by decide) (g_tok_of (ini := false) (fun h => by cases h) tkX12_ward)
  | 220, h => cases h; exact g_mok_of (x := 220) rfl rfl (by decide) (g_tok_of (ini := false) (fun h => by cases h) tkX12_nurse)
  | 221, h => cases h; exact g_mok_of (x := 221) rfl rfl (by decide) (g_tok_of (ini := false) (fun h => by cases h) tkX12_needs)
  | 222, h => cases h; exact g_mok_of (x := 222) rfl rfl (by decide) (g_tok_of (ini := false) (fun h => by cases h) tkX12_repeats)
  | 223, h => cases h; exact g_mok_of (x := 223) rfl rfl (by decide) (g_tok_of (ini := false) (fun h => by cases h) tkX12_timesTold)
  | 224, h => cases h; exact g_mok_of (x := 224) rfl rfl (by decide) (g_tok_of (ini := false) (fun h => by cases h) tkX12_monthTold)
  | 225, h => cases h; exact g_mok_of (x := 225) rfl rfl (by decide) (g_tok_of (ini := false) (fun h => by cases h) tkX12_timetable)
  | 226, h => cases h; exact g_mok_of (x := 226) rfl rfl (by decide) (g_tok_of (ini := false) (fun h => by cases h) tkX12_lessonOf)
  | 227, h => cases h; exact g_mok_of (x := 227) rfl rfl (by decide) (g_tok_of (ini := false) (fun h => by cases h) tkX12_draw)
  | 228, h => cases h; exact g_mok_of (x := 228) rfl rfl (by decide) (g_tok_of (ini := false) (fun h => by cases h) tkX12_weakens)
  | 229, h => cases h; exact g_mok_of (x := 229) rfl rfl (by decide) (g_tok_of (ini := false) (fun h => by cases h) tkX12_isWell)
  | 230, h => cases h; exact g_mok_of (x := 230) rfl rfl (by decide) (g_tok_of (ini := false) (fun h => by cases h) tkX12_feeds)
  | 231, h => cases h; exact g_mok_of (x := 231) rfl rfl (by decide) (g_tok_of (ini := false) (fun h => by cases h) tkX12_teaches)
  | 232, h => cases h; exact g_mok_of (x := 232) rfl rfl (by decide) (g_tok_of (ini := false) (fun h => by cases h) tkX12_wardsGo)
  | 233, h => cases h; exact g_mok_of (x := 233) rfl rfl (by decide) (g_tok_of (ini := false) (fun h => by cases h) tkX12_breaks)
  | 234, h => cases h; exact g_mok_of (x := 234) rfl rfl (by decide) (g_tok_of (ini := false) (fun h => by cases h) tkX12_whistle)
  | 235, h => cases h; exact g_mok_of (x := 235) rfl rfl (by decide) (g_tok_of (ini := false) (fun h => by cases h) tkX12_nursesGo)
  | 236, h => cases h; exact g_mok_of (x := 236) rfl rfl (by decide) (g_tok_of (ini := false) (fun h => by cases h) tkX12_judges)
  | 237, h => cases h; exact g_mok_of (x := 237) rfl rfl (by decide) (g_tok_of (ini := false) (fun h => by cases h) tkX12_go)
  | 238, h => cases h; exact g_mok_of (x := 238) rfl rfl (by decide) (g_tok_of (ini := false) (fun h => by cases h) tkX12_months)
  | 239, h => cases h; exact g_mok_of (x := 239) rfl rfl (by decide) (g_tok_of (ini := false) (fun h => by cases h) tkX12_laysAside)
  | 240, h => cases h; exact g_mok_of (x := 240) rfl rfl (by decide) (g_tok_of (ini := false) (fun h => by cases h) tkX12_bringsBack)
  | 241, h => cases h; exact g_mok_of (x := 241) rfl rfl (by decide) (g_tok_of (ini := false) (fun h => by cases h) tkX12_tried)
  | 242, h => cases h; exact g_mok_of (x := 242) rfl rfl (by decide) (g_tok_of (ini := false) (fun h => by cases h) tkX12_orLess)
  | 243, h => cases h; exact g_mok_of (x := 243) rfl rfl (by decide) (g_tok_of (ini := false) (fun h => by cases h) tkX12_gustIs)
  | 244, h => cases h; exact g_mok_of (x := 244) rfl rfl (by decide) (g_tok_of (ini := false) (fun h => by cases h) tkX12_setIn)
  | 245, h => cases h; exact g_mok_of (x := 245) rfl rfl (by decide) (g_tok_of (ini := false) (fun h => by cases h) tkX12_brokenIn)
  | 246, h => cases h; exact g_mok_of (x := 246) rfl rfl (by decide) (g_tok_of (ini := false) (fun h => by cases h) tkX12_wardIs)
  | 247, h => cases h; exact g_mok_of (x := 247) rfl rfl (by decide) (g_tok_of (ini := false) (fun h => by cases h) tkX12_nurseIs)
  | 248, h => cases h; exact g_mok_of (x := 248) rfl rfl (by decide) (g_tok_of (ini := false) (fun h => by cases h) tkX12_quarrel)
  | 249, h => cases h; exact g_mok_of (x := 249) rfl rfl (by decide) (g_tok_of (ini := false) (fun h => by cases h) tkX12_toldGusts)
  | 250, h => cases h; exact g_mok_of (x := 250) rfl rfl (by decide) (g_tok_of (ini := false) (fun h => by cases h) tkX12_areGusts)
  | 251, h => cases h; exact g_mok_of (x := 251) rfl rfl (by decide) (g_tok_of (ini := false) (fun h => by cases h) tkX12_takesSome)
  | 252, h => cases h; exact g_mok_of (x := 252) rfl rfl (by decide) (g_tok_of (ini := false) (fun h => by cases h) tkX12_placeIn)
  | 253, h => cases h; exact g_mok_of (x := 253) rfl rfl (by decide) (g_tok_of (ini := false) (fun h => by cases h) tkX12_powerOf)
  | 254, h => cases h; exact g_mok_of (x := 254) rfl rfl (by decide) (g_tok_of (ini := false) (fun h => by cases h) tkX12_opensRow)
  | 255, h => cases h; exact g_mok_of (x := 255) rfl rfl (by decide) (g_tok_of (ini := false) (fun h => by cases h) tkX12_keepsRow)
  | 256, h => cases h; exact g_mok_of (x := 256) rfl rfl (by decide) (g_tok_of (ini := false) (fun h => by cases h) tkX12_takesPlaces)
  | 257, h => cases h; exact g_mok_of (x := 257) rfl rfl (by decide) (g_tok_of (ini := false) (fun h => by cases h) tkX12_isRoomFor)
  | 258, h => cases h; exact g_mok_of (x := 258) rfl rfl (by decide) (g_tok_of (ini := false) (fun h => by cases h) tkX12_twosIn)
  | 259, h => cases h; exact g_mok_of (x := 259) rfl rfl (by decide) (g_tok_of (ini := false) (fun h => by cases h) tkX12_housed)
  | 260, h => cases h; exact g_mok_of (x := 260) rfl rfl (by decide) (g_tok_of (ini := false) (fun h => by cases h) tkX12_wind)
  | 261, h => cases h; exact g_mok_of (x := 261) rfl rfl (by decide) (g_tok_of (ini := false) (fun h => by cases h) tkX12_canGo)
  | 262, h => cases h; exact g_mok_of (x := 262) rfl rfl (by decide) (g_tok_of (ini := false) (fun h => by cases h) tkX12_canLeave)
  | 263, h => cases h; exact g_mok_of (x := 263) rfl rfl (by decide) (g_tok_of (ini := false) (fun h => by cases h) tkX12_laysLeaving)
  | 264, h => cases h; exact g_mok_of (x := 264) rfl rfl (by decide) (g_tok_of (ini := false) (fun h => by cases h) tkX12_leaving)
  | 265, h => cases h; exact g_mok_of (x := 265) rfl rfl (by decide) (g_tok_of (ini := false) (fun h => by cases h) tkX12_letGo)
  | 266, h => cases h; exact g_mok_of (x := 266) rfl rfl (by decide) (g_tok_of (ini := false) (fun h => by cases h) tkX12_home)
  | 267, h => cases h; exact g_mok_of (x := 267) rfl rfl (by decide) (g_tok_of (ini := false) (fun h => by cases h) tkX12_homesFor)
  | 268, h => cases h; exact g_mok_of (x := 268) rfl rfl (by decide) (g_tok_of (ini := false) (fun h => by cases h) tkX12_greaterPart)
  | 269, h => cases h; exact g_mok_of (x := 269) rfl rfl (by decide) (g_tok_of (ini := false) (fun h => by cases h) tkX12_from)
  | 270, h => cases h; exact g_mok_of (x := 270) rfl rfl (by decide) (g_tok_of (ini := false) (fun h => by cases h) tkX12_laysLessons)
  | 271, h => cases h; exact g_mok_of (x := 271) rfl rfl (by decide) (g_tok_of (ini := false) (fun h => by cases h) tkX12_taught)
  | 272, h => cases h; exact g_mok_of (x := 272) rfl rfl (by decide) (g_tok_of (ini := false) (fun h => by cases h) tkX12_house)
  | 273, h => cases h; exact g_mok_of (x := 273) rfl rfl (by decide) (g_tok_of (ini := false) (fun h => by cases h) tkX12_isHigher)
  | 274, h => cases h; exact g_mok_of (x := 274) rfl rfl (by decide) (g_tok_of (ini := false) (fun h => by cases h) tkX12_isLiked)
  | 275, h => cases h; exact g_mok_of (x := 275) rfl rfl (by decide) (g_tok_of (ini := false) (fun h => by cases h) tkX12_asksNext)
  | 276, h => cases h; exact g_mok_of (x := 276) rfl rfl (by decide) (g_tok_of (ini := false) (fun h => by cases h) tkX12_isAnywhere)
  | 277, h => cases h; exact g_mok_of (x := 277) rfl rfl (by decide) (g_tok_of (ini := false) (fun h => by cases h) tkX12_laysPlaces)
  | 278, h => cases h; exact g_mok_of (x := 278) rfl rfl (by decide) (g_tok_of (ini := false) (fun h => by cases h) tkX12_placed)
  | 279, h => cases h; exact g_mok_of (x := 279) rfl rfl (by decide) (g_tok_of (ini := false) (fun h => by cases h) tkX12_fair)
  | 280, h => cases h; exact g_mok_of (x := 280) rfl rfl (by decide) (g_tok_of (ini := false) (fun h => by cases h) tkX12_lower)
  | 281, h => cases h; exact g_mok_of (x := 281) rfl rfl (by decide) (g_tok_of (ini := false) (fun h => by cases h) tkX12_higher)
  | 282, h => cases h; exact g_mok_of (x := 282) rfl rfl (by decide) (g_tok_of (ini := false) (fun h => by cases h) tkX12_hourOf)
  | 283, h => cases h; exact g_mok_of (x := 283) rfl rfl (by decide) (g_tok_of (ini := false) (fun h => by cases h) tkX12_laysAhead)
  | 284, h => cases h; exact g_mok_of (x := 284) rfl rfl (by decide) (g_tok_of (ini := false) (fun h => by cases h) tkX12_laysBehind)
  | 285, h => cases h; exact g_mok_of (x := 285) rfl rfl (by decide) (g_tok_of (ini := false) (fun h => by cases h) tkX12_escaped)
  | 286, h => cases h; exact g_mok_of (x := 286) rfl rfl (by decide) (g_tok_of (ini := false) (fun h => by cases h) tkX12_isOrder)
  | 287, h => cases h; exact g_mok_of (x := 287) rfl rfl (by decide) (g_tok_of (ini := false) (fun h => by cases h) tkX12_toldNurses)
  | 288, h => cases h; exact g_mok_of (x := 288) rfl rfl (by decide) (g_tok_of (ini := false) (fun h => by cases h) tkX12_nursed)
  | 289, h => cases h; exact g_mok_of (x := 289) rfl rfl (by decide) (g_tok_of (ini := false) (fun h => by cases h) tkX12_laysRing)
  | 290, h => cases h; exact g_mok_of (x := 290) rfl rfl (by decide) (g_tok_of (ini := false) (fun h => by cases h) tkX12_round)
  | 291, h => cases h; exact g_mok_of (x := 291) rfl rfl (by decide) (g_tok_of (ini := false) (fun h => by cases h) tkX12_partOf)
  | 292, h => cases h; exact g_mok_of (x := 292) rfl rfl (by decide) (g_tok_of (ini := false) (fun h => by cases h) tkX12_added)
  | 293, h => cases h; exact g_mok_of (x := 293) rfl rfl (by decide) (g_tok_of (ini := false) (fun h => by cases h) tkX12_seed)
  | 294, h => cases h; exact g_mok_of (x := 294) rfl rfl (by decide) (g_tok_of (ini := false) (fun h => by cases h) tkX12_keep)
  | 295, h => cases h; exact g_mok_of (x := 295) rfl rfl (by decide) (g_tok_of (ini := false) (fun h => by cases h) tkX12_undo)
  | 296, h => cases h; exact g_mok_of (x := 296) rfl rfl (by decide) (g_tok_of (ini := false) (fun h => by cases h) tkX12_check)
  | 297, h => cases h; exact g_mok_of (x := 297) rfl rfl (by decide) (g_tok_of (ini := false) (fun h => by cases h) tkX12_toldOf)
  | 298, h => cases h; exact g_mok_of (x := 298) rfl rfl (by decide) (g_tok_of (ini := false) (fun h => by cases h) tkX12_count)
  | 299, h => cases h; exact g_mok_of (x := 299) rfl rfl (by decide) (g_tok_of (ini := false) (fun h => by cases h) tkJ6_bitCount_0f7a4)
  | 300, h => cases h; exact g_mok_of (x := 300) rfl rfl (by decide) (g_tok_of (ini := false) (fun h => by cases h) tkJ7_fill_53178)
  | n + 301, h => cases h
theorem g_law_ok : g_Tok g_mt (g_cn 13, x, code, 4, some .boolean, g_look2 ttL_law) := g_tok_of (ini := false) (fun h => by cases h) tkL_law
theorem g_oc_ok : ∀ (μ o : Nat) (M : g_M), g_mt μ = some M → g_oc[μ]? = some o → M.1 = g_cn o := by
  intro μ o M h9 h2
  obtain ⟨h0, h⟩ := g_mt_ml h9
  match μ, h, h2 with
  | 0, h, h2 => exact absurd rfl h0
  | 1, h, h2 => cases h; cases h2; rfl
  | 2, h, h2 => cases h; cases h2; rfl
  | 3, h, h2 => cases h; cases h2; rfl
  | 4, h, h2 => cases h; cases h2; rfl
  | 5, h, h2 => cases h; cases h2; rfl
  | 6, h, h2 => cases h; cases h2; rfl
  | 7, h, h2 => cases h; cases h2; rfl
  | 8, h, h2 => cases h; cases h2; rfl
  | 9, h, h2 => cases h; cases h2; rfl
  | 10, h, h2 => cases h; cases h2; rfl
  | 11, h, h2 => cases h; cases h2; rfl
  | 12, h, h2 => cases h; cases h2; rfl
  | 13, h, h2 => cases h; cases h2; rfl
  | 14, h, h2 => cases h; cases h2; rfl
  | 15, h, h2 => cases h; cases h2; rfl
  | 16, h, h2 => cases h; cases h2; rfl
  | 17, h, h2 => cases h; cases h2; rfl
  | 18, h, h2 => cases h; cases h2; rfl
  | 19, h, h2 => cases h; cases h2; rfl
  | 20, h, h2 => cases h; cases h2; rfl
  | 21, h, h2 => cases h; cases h2; rfl
  | 22, h, h2 => cases h; cases h2; rfl
  | 23, h, h2 => cases h; cases h2; rfl
  | 24, h, h2 => cases h; cases h2; rfl
  | 25, h, h2 => cases h; cases h2; rfl
  | 26, h, h2 => cases h; cases h2; rfl
  | 27, h, h2 => cases h; cases h2; rfl
  | 28, h, h2 => cases h; cases h2; rfl
  | 29, h, h2 => cases h; cases h2; rfl
  | 30, h, h2 => cases h; cases h2; rfl
  | 31, h, h2 => cases h; cases h2; rfl
  | 32, h, h2 => cases h; cases h2; rfl
  | 33, h, h2 => cases h; cases h2; rfl
  | 34, h, h2 => cases h; cases h2; rfl
  | 35, h, h2 => cases h; cases h2; rfl
  | 36, h, h2 => cases h; cases h2; rfl
  | 37, h, h2 => cases h; cases h2; rfl
  | 38, h, h2 => cases h; cases h2; rfl
  | 39, h, h2 => cases h; cases h2; rfl
  | 40, h, h2 => cases h; cases h2; rfl
  | 41, h, h2 => cases h; cases h2; rfl
  | 42, h, h2 => cases h; cases h2; rfl
  | 43, h, h2 => cases h; cases h2; rfl
  | 44, h, h2 => cases h; cases h2; rfl
  | 45, h, h2 => cases h; cases h2; rfl
  | 46, h, h2 => cases h; cases h2; rfl
  | 47, h, h2 => cases h; cases h2; rfl
  | 48, h, h2 => cases h; cases h2; rfl
  | 49, h, h2 => cases h; cases h2; rfl
  | 50, h, h2 => cases h; cases h2; rfl
  | 51, h, h2 => cases h; cases h2; rfl
  | 52, h, h2 => cases h; cases h2; rfl
  | 53, h, h2 => cases h; cases h2; rfl
  | 54, h, h2 => cases h; cases h2; rfl
  | 55, h, h2 => cases h; cases h2; rfl
  | 56, h, h2 => cases h; cases h2; rfl
  | 57, h, h2 => cases h; cases h2; rfl
  | 58, h, h2 => cases h; cases h2; rfl
  | 59, h, h2 => cases h; cases h2; rfl
  | 60, h, h2 => cases h; cases h2; rfl
  | 61, h, h2 => cases h; cases h2; rfl
  | 62, h, h2 => cases h; cases h2; rfl
  | 63, h, h2 => cases h; cases h2; rfl
  | 64, h, h2 => cases h; cases h2; rfl
  | 65, h, h2 => cases h; cases h2; rfl
  | 66, h, h2 => cases h; cases h2; rfl
  | 67, h, h2 => cases h; cases h2; rfl
  | 68, h, h2 => cases h; cases h2; rfl
  | 69, h, h2 => cases h; cases h2; rfl
  | 70, h, h2 => cases h; cases h2; rfl
  | 71, h, h2 => cases h; cases h2; rfl
  | 72, h, h2 => cases h; cases h2; rfl
  | 73, h, h2 => cases h; cases h2; rfl
  | 74, h, h2 => cases h; cases h2; rfl
  | 75, h, h2 => cases h; cases h2; rfl
  | 76, h, h2 => cases h; cases h2; rfl
  | 77, h, h2 => cases h; cases h2; rfl
  | 78, h, h2 => cases h; cases h2; rfl
  | 79, h, h2 => cases h; cases h2; rfl
  | 80, h, h2 => cases h; cases h2; rfl
  | 81, h, h2 => cases h; cases h2; rfl
  | 82, h, h2 => cases h; cases h2; rfl
  | 83, h, h2 => cases h; cases h2; rfl
  | 84, h, h2 => cases h; cases h2; rfl
  | 85, h, h2 => cases h; cases h2; rfl
  | 86, h, h2 => cases h; cases h2; rfl
  | 87, h, h2 => cases h; cases h2; rfl
  | 88, h, h2 => cases h; cases h2; rfl
  | 89, h, h2 => cases h; cases h2; rfl
  | 90, h, h2 => cases h; cases h2; rfl
  | 91, h, h2 => cases h; cases h2; rfl
  | 92, h, h2 => cases h; cases h2; rfl
  | 93, h, h2 => cases h; cases h2; rfl
  | 94, h, h2 => cases h; cases h2; rfl
  | 95, h, h2 => cases h; cases h2; rfl
  | 96, h, h2 => cases h; cases h2; rfl
  | 97, h, h2 => cases h; cases h2; rfl
  | 98, h, h2 => cases h; cases h2; rfl
  | 99, h, h2 => cases h; cases h2; rfl
  | 100, h, h2 => cases h; cases h2; rfl
  | 101, h, h2 => cases h; cases h2; rfl
  | 102, h, h2 => cases h; cases h2; rfl
  | 103, h, h2 => cases h; cases h2; rfl
  | 104, h, h2 => cases h; cases h2; rfl
  | 105, h, h2 => cases h; cases h2; rfl
  | 106, h, h2 => cases h; cases h2; rfl
  | 107, h, h2 => cases h; cases h2; rfl
  | 108, h, h2 => cases h; cases h2; rfl
  | 109, h, h2 => cases h; cases h2; rfl
  | 110, h, h2 => cases h; cases h2; rfl
  | 111, h, h2 => cases h; cases h2; rfl
  | 112, h, h2 => cases h; cases h2; rfl
  | 113, h, h2 => cases h; cases h2; rfl
  | 114, h, h2 => cases h; cases h2; rfl
  | 115, h, h2 => cases h; cases h2; rfl
  | 116, h, h2 => cases h; cases h2; rfl
  | 117, h, h2 => cases h; cases h2; rfl
  | 118, h, h2 => cases h; cases h2; rfl
  | 119, h, h2 => cases h; cases h2; rfl
  | 120, h, h2 => cases h; cases h2; rfl
  | 121, h, h2 => cases h; cases h2; rfl
  | 122, h, h2 => cases h; cases h2; rfl
  | 123, h, h2 => cases h; cases h2; rfl
  | 124, h, h2 => cases h; cases h2; rfl
  | 125, h, h2 => cases h; cases h2; rfl
  | 126, h, h2 => cases h; cases h2; rfl
  | 127, h, h2 => cases h; cases h2; rfl
  | 128, h, h2 => cases h; cases h2; rfl
  | 129, h, h2 => cases h; cases h2; rfl
  | 130, h, h2 => cases h; cases h2; rfl
  | 131, h, h2 => cases h; cases h2; rfl
  | 132, h, h2 => cases h; cases h2; rfl
  | 133, h, h2 => cases h; cases h2; rfl
  | 134, h, h2 => cases h; cases h2; rfl
  | 135, h, h2 => cases h; cases h2; rfl
  | 136, h, h2 => cases h; cases h2; rfl
  | 137, h, h2 => cases h; cases h2; rfl
  | 138, h, h2 => cases h; cases h2; rfl
  | 139, h, h2 => cases h; cases h2; rfl
  | 140, h, h2 => cases h; cases h2; rfl
  | 141, h, h2 => cases h; cases h2; rfl
  | 142, h, h2 => cases h; cases h2; rfl
  | 143, h, h2 => cases h; cases h2; rfl
  | 144, h, h2 => cases h; cases h2; rfl
  | 145, h, h2 => cases h; cases h2; rfl
  | 146, h, h2 => cases h; cases h2; rfl
  | 147, h, h2 => cases h; cases h2; rfl
  | 148, h, h2 => cases h; cases h2; rfl
  | 149, h, h2 => cases h; cases h2; rfl
  | 150, h, h2 => cases h; cases h2; rfl
  | 151, h, h2 => cases h; cases h2; rfl
  | 152, h, h2 => cases h; cases h2; rfl
  | 153, h, h2 => cases h; cases h2; rfl
  | 154, h, h2 => cases h; cases h2; rfl
  | 155, h, h2 => cases h; cases h2; rfl
  | 156, h, h2 => cases h; cases h2; rfl
  | 157, h, h2 => cases h; cases h2; rfl
  | 158, h, h2 => cases h; cases h2; rfl
  | 159, h, h2 => cases h; cases h2; rfl
  | 160, h, h2 => cases h; cases h2; rfl
  | 161, h, h2 => cases h; cases h2; rfl
  | 162, h, h2 => cases h; cases h2; rfl
  | 163, h, h2 => cases h; cases h2; rfl
  | 164, h, h2 => cases h; cases h2; rfl
  | 165, h, h2 => cases h; cases h2; rfl
  | 166, h, h2 => cases h; cases h2; rfl
  | 167, h, h2 => cases h; cases h2; rfl
  | 168, h, h2 => cases h; cases h2; rfl
  | 169, h, h2 => cases h; cases h2; rfl
  | 170, h, h2 => cases h; cases h2; rfl
  | 171, h, h2 => cases h; cases h2; rfl
  | 172, h, h2 => cases h; cases h2; rfl
  | 173, h, h2 => cases h; cases h2; rfl
  | 174, h, h2 => cases h; cases h2; rfl
  | 175, h, h2 => cases h; cases h2; rfl
  | 176, h, h2 => cases h; cases h2; rfl
  | 177, h, h2 => cases h; cases h2; rfl
  | 178, h, h2 => cases h; cases h2; rfl
  | 179, h, h2 => cases h; cases h2; rfl
  | 180, h, h2 => cases h; cases h2; rfl
  | 181, h, h2 => cases h; cases h2; rfl
  | 182, h, h2 => cases h; cases h2; rfl
  | 183, h, h2 => cases h; cases h2; rfl
  | 184, h, h2 => cases h; cases h2; rfl
  | 185, h, h2 => cases h; cases h2; rfl
  | 186, h, h2 => cases h; cases h2; rfl
  | 187, h, h2 => cases h; cases h2; rfl
  | 188, h, h2 => cases h; cases h2; rfl
  | 189, h, h2 => cases h; cases h2; rfl
  | 190, h, h2 => cases h; cases h2; rfl
  | 191, h, h2 => cases h; cases h2; rfl
  | 192, h, h2 => cases h; cases h2; rfl
  | 193, h, h2 => cases h; cases h2; rfl
  | 194, h, h2 => cases h; cases h2; rfl
  | 195, h, h2 => cases h; cases h2; rfl
  | 196, h, h2 => cases h; cases h2; rfl
  | 197, h, h2 => cases h; cases h2; rfl
  | 198, h, h2 => cases h; cases h2; rfl
  | 199, h, h2 => cases h; cases h2; rfl
  | 200, h, h2 => cases h; cases h2; rfl
  | 201, h, h2 => cases h; cases h2; rfl
  | 202, h, h2 => cases h; cases h2; rfl
  | 203, h, h2 => cases h; cases h2; rfl
  | 204, h, h2 => cases h; cases h2; rfl
  | 205, h, h2 => cases h; cases h2; rfl
  | 206, h, h2 => cases h; cases h2; rfl
  | 207, h, h2 => cases h; cases h2; rfl
  | 208, h, h2 => cases h; cases h2; rfl
  | 209, h, h2 => cases h; cases h2; rfl
  | 210, h, h2 => cases h; cases h2; rfl
  | 211, h, h2 => cases h; cases h2; rfl
  | 212, h, h2 => cases h; cases h2; rfl
  | 213, h, h2 => cases h; cases h2; rfl
  | 214, h, h2 => cases h; cases h2; rfl
  | 215, h, h2 => cases h; cases h2; rfl
  | 216, h, h2 => cases h; cases h2; rfl
  | 217, h, h2 => cases h; cases h2; rfl
  | 218, h, h2 => cases h; cases h2; rfl
  | 219, h, h2 => cases h; cases h2; rfl
  | 220, h, h2 => cases h; cases h2; rfl
  | 221, h, h2 => cases h; cases h2; rfl
  | 222, h, h2 => cases h; cases h2; rfl
  | 223, h, h2 => cases h; cases h2; rfl
  | 224, h, h2 => cases h; cases h2; rfl
  | 225, h, h2 => cases h; cases h2; rfl
  | 226, h, h2 => cases h; cases h2; rfl
  | 227, h, h2 => cases h; cases h2; rfl
  | 228, h, h2 => cases h; cases h2; rfl
  | 229, h, h2 => cases h; cases h2; rfl
  | 230, h, h2 => cases h; cases h2; rfl
  | 231, h, h2 => cases h; cases h2; rfl
  | 232, h, h2 => cases h; cases h2; rfl
  | 233, h, h2 => cases h; cases h2; rfl
  | 234, h, h2 => cases h; cases h2; rfl
  | 235, h, h2 => cases h; cases h2; rfl
  | 236, h, h2 => cases h; cases h2; rfl
  | 237, h, h2 => cases h; cases h2; rfl
  | 238, h, h2 => cases h; cases h2; rfl
  | 239, h, h2 => cases h; cases h2; rfl
  | 240, h, h2 => cases h; cases h2; rfl
  | 241, h, h2 => cases h; cases h2; rfl
  | 242, h, h2 => cases h; cases h2; rfl
  | 243, h, h2 => cases h; cases h2; rfl
  | 244, h, h2 => cases h; cases h2; rfl
  | 245, h, h2 => cases h; cases h2; rfl
  | 246, h, h2 => cases h; cases h2; rfl
  | 247, h, h2 => cases h; cases h2; rfl
  | 248, h, h2 => cases h; cases h2; rfl
  | 249, h, h2 => cases h; cases h2; rfl
  | 250, h, h2 => cases h; cases h2; rfl
  | 251, h, h2 => cases h; cases h2; rfl
  | 252, h, h2 => cases h; cases h2; rfl
  | 253, h, h2 => cases h; cases h2; rfl
  | 254, h, h2 => cases h; cases h2; rfl
  | 255, h, h2 => cases h; cases h2; rfl
  | 256, h, h2 => cases h; cases h2; rfl
  | 257, h, h2 => cases h; cases h2; rfl
  | 258, h, h2 => cases h; cases h2; rfl
  | 259, h, h2 => cases h; cases h2; rfl
  | 260, h, h2 => cases h; cases h2; rfl
  | 261, h, h2 => cases h; cases h2; rfl
  | 262, h, h2 => cases h; cases h2; rfl
  | 263, h, h2 => cases h; cases h2; rfl
  | 264, h, h2 => cases h; cases h2; rfl
  | 265, h, h2 => cases h; cases h2; rfl
  | 266, h, h2 => cases h; cases h2; rfl
  | 267, h, h2 => cases h; cases h2; rfl
  | 268, h, h2 => cases h; cases h2; rfl
  | 269, h, h2 => cases h; cases h2; rfl
  | 270, h, h2 => cases h; cases h2; rfl
  | 271, h, h2 => cases h; cases h2; rfl
  | 272, h, h2 => cases h; cases h2; rfl
  | 273, h, h2 => cases h; cases h2; rfl
  | 274, h, h2 => cases h; cases h2; rfl
  | 275, h, h2 => cases h; cases h2; rfl
  | 276, h, h2 => cases h; cases h2; rfl
  | 277, h, h2 => cases h; cases h2; rfl
  | 278, h, h2 => cases h; cases h2; rfl
  | 279, h, h2 => cases h; cases h2; rfl
  | 280, h, h2 => cases h; cases h2; rfl
  | 281, h, h2 => cases h; cases h2; rfl
  | 282, h, h2 => cases h; cases h2; rfl
  | 283, h, h2 => cases h; cases h2; rfl
  | 284, h, h2 => cases h; cases h2; rfl
  | 285, h, h2 => cases h; cases h2; rfl
  | 286, h, h2 => cases h; cases h2; rfl
  | 287, h, h2 => cases h; cases h2; rfl
  | 288, h, h2 => cases h; cases h2; rfl
  | 289, h, h2 => cases h; cases h2; rfl
  | 290, h, h2 => cases h; cases h2; rfl
  | 291, h, h2 => cases h; cases h2; rfl
  | 292, h, h2 => cases h; cases h2; rfl
  | 293, h, h2 => cases h; cases h2; rfl
  | 294, h, h2 => cases h; cases h2; rfl
  | 295, h, h2 => cases h; cases h2; rfl
  | 296, h, h2 => cases h; cases h2; rfl
  | 297, h, h2 => cases h; cases h2; rfl
  | 298, h, h2 => cases h; cases h2; rfl
  | 299, h, h2 => cases h; cases h2; rfl
  | 300, h, h2 => cases h; cases h2; rfl
  | n + 301, h, h2 => cases h
end Prt17
section Prt18
/-! an abstract machine by bounds, and contracts: numbers -/
abbrev q_N : Type := Int ⊕ Nat
abbrev q_V : Type := q_N ⊕ q_N ⊕ Option Nat
abbrev q_E : Type := Int × Int × Nat × q_N × q_N
abbrev q_S : Type := List q_E
abbrev q_L : Type := List (Nat × q_V)
noncomputable def q_nth {α : Type} (l : List α) (i : Nat) : Option α := List.rec (motive := fun _ => Nat → Option α) (fun _ => none) (fun h _ ih i => Nat.casesOn i (some h) (fun j => ih j)) l i
noncomputable def q_put {α : Type} (l : List α) (i : Nat) (v : α) : List α := List.rec (motive := fun _ => Nat → List α) (fun _ => []) (fun h t ih i => Nat.casesOn i (v :: t) (fun j => h :: ih j)) l i
noncomputable def q_len {α : Type} (l : List α) : Nat := List.rec (motive := fun _ => Nat) 0 (fun _ _ ih => Nat.succ ih) l
noncomputable def q_app {α : Type} (l : List α) (v : α) : List α := List.rec (motive := fun _ => List α) [v] (fun h _ ih => h :: ih) l
def q_ilt (a b : Int) : Bool := match a, b with
  | .ofNat m, .ofNat n => Nat.blt m n
  | .negSucc _, .ofNat _ => true
  | .ofNat _, .negSucc _ => false
  | .negSucc m, .negSucc n => Nat.blt n m
def q_ile (a b : Int) : Bool := match a, b with
  | .ofNat m, .ofNat n => Nat.ble m n
  | .negSucc _, .ofNat _ => true
  | .ofNat _, .negSucc _ => false
  | .negSucc m, .negSucc n => Nat.ble n m
def q_ieq (a b : Int) : Bool := match a, b with
  | .ofNat m, .ofNat n => Nat.beq m n
  | .negSucc m, .negSucc n => Nat.beq m n
  | _, _ => false
/-- how many bits -/
def v_popN : Nat → Nat → Nat
  | 0, _ => 0
  | f + 1, n => n % 2 + v_popN f (n / 2)
def v_pop (x : Int32) : Int32 := Int32.ofInt ((v_popN 32 x.toUInt32.toNat : Nat) : Int)
def q_F (op : Nat) (x y : Int32) : Int32 := match op with
  | 1 => x + y
  | 2 => x - y
  | 3 => x * y
  | 4 => x &&& y
  | 5 => x ||| y
  | 6 => x ^^^ y
  | 7 => x <<< (y &&& 31)
  | 8 => x >>> (y &&& 31)
  | 9 => (x.toUInt32 >>> (y.toUInt32 &&& Int32.toUInt32 31)).toInt32
  | 10 => x / y
  | 11 => x - x / y * y
  | 12 => if x < y then y else x
  | 13 => if y < x then y else x
  | 20 => v_pop x
  | _ => x
noncomputable def q_iv (env : q_S) (a : q_N) : Int × Int := match a with
  | .inl c => (c, c)
  | .inr k => match q_nth env k with
    | some e => (e.1, e.2.1)
    | none => (0, 0)
noncomputable def q_c (env : q_S) (a : q_N) : Option Int := match a with
  | .inl c => some c
  | .inr k => match q_nth env k with
    | some e => bif (q_ieq e.1 e.2.1) then some e.1 else none
    | none => none
def v_mx (a b : Int) : Int := bif q_ile a b then b else a
def v_mn (a b : Int) : Int := bif q_ile a b then a else b
def v_cap (a b : Int) : Int := ((2 ^ (Nat.log2 (v_mx a b).toNat + 1) - 1 : Nat) : Int)
def v_ivop (op : Nat) (p q : Int × Int) : Int × Int := match op with
  | 1 => bif (q_ile (-2147483648) (p.1 + q.1)) && (q_ile (p.2 + q.2) 2147483647) then (p.1 + q.1, p.2 + q.2) else (-2147483648, 2147483647)
  | 2 => bif (q_ile (-2147483648) (p.1 - q.2)) && (q_ile (p.2 - q.1) 2147483647) then (p.1 - q.2, p.2 - q.1) else (-2147483648, 2147483647)
  | 3 => bif (q_ile 0 p.1) && ((q_ile 0 q.1) && (q_ile (p.2 * q.2) 2147483647)) then (p.1 * q.1, p.2 * q.2) else (-2147483648, 2147483647)
  | 4 => bif (q_ile 0 q.1) then (0, bif q_ile 0 p.1 then v_mn p.2 q.2 else q.2) else bif (q_ile 0 p.1) then (0, p.2) else (-2147483648, 2147483647)
  | 5 => bif (q_ile 0 p.1) && (q_ile 0 q.1) then (v_mx p.1 q.1, v_cap p.2 q.2) else (-2147483648, 2147483647)
  | 6 => bif (q_ile 0 p.1) && (q_ile 0 q.1) then (0, v_cap p.2 q.2) else (-2147483648, 2147483647)
  | 7 => bif ((q_ieq p.1 1) && (q_ieq p.2 1)) && ((q_ile 0 q.1) && (q_ile q.2 30)) then (((2 ^ q.1.toNat : Nat) : Int), ((2 ^ q.2.toNat : Nat) : Int)) else (-2147483648, 2147483647)
  | 8 => bif (q_ile 0 p.1) then (0, p.2) else (-2147483648, 2147483647)
  | 10 => bif (q_ile 0 p.1) && (q_ile 1 q.1) then (0, p.2) else (-2147483648, 2147483647)
  | 11 => bif (q_ile 0 p.1) && (q_ile 1 q.1) then (0, v_mn p.2 (q.2 - 1)) else (-2147483648, 2147483647)
  | 12 => (v_mx p.1 q.1, v_mx p.2 q.2)
  | 13 => (v_mn p.1 q.1, v_mn p.2 q.2)
  | 20 => bif (q_ile 0 p.1) then (bif q_ile 1 p.1 then 1 else 0, bif q_ieq p.2 0 then 0 else ((Nat.log2 p.2.toNat + 1 : Nat) : Int)) else (0, 32)
  | _ => (-2147483648, 2147483647)
def q_nb (a b : q_N) : Bool := match a, b with
  | .inl x, .inl y => (q_ieq x y)
  | .inr x, .inr y => Nat.beq x y
  | _, _ => false
/-- a symbol that was made by the same operation -/
noncomputable def q_cse (env : q_S) (op : Nat) (a b : q_N) : Option Nat := List.rec (motive := fun _ => Nat → Option Nat) (fun _ => none) (fun h _ ih k => bif Nat.beq h.2.2.1 op && (q_nb h.2.2.2.1 a && q_nb h.2.2.2.2 b) then some k else ih (Nat.succ k)) env 0
noncomputable def q_new (env : q_S) (e : q_E) (k : q_N → q_S → Bool) : Bool := k (.inr (q_len env)) (q_app env e)
def q_nrm (z : Int) : Int := bif (q_ile (-2147483648) z) && (q_ile z 2147483647) then z else (Int32.ofInt z).toInt
def q_fold (op : Nat) (x y : Int) : Int := bif Nat.beq op 1 then q_nrm (x + y) else bif Nat.beq op 2 then q_nrm (x - y) else (q_F op (Int32.ofInt x) (Int32.ofInt y)).toInt
/-- bounds that are told of a symbol, and, where it is another one and a constant, of that one -/
noncomputable def v_bd1 (env : q_S) (k : Nat) (lo hi : Int) : q_S := match q_nth env k with
  | some e => q_put env k (v_mx e.1 lo, v_mn e.2.1 hi, e.2.2)
  | none => env
noncomputable def v_bk (env : q_S) (lo hi : Int) (e : q_E) : q_S := match e.2.2.1, e.2.2.2.1, e.2.2.2.2 with
  | 1, .inr t, .inl c => bif q_ile (-2147483648) ((q_iv env (.inr t)).1 + c) && q_ile ((q_iv env (.inr t)).2 + c) 2147483647 then v_bd1 env t (lo - c) (hi - c) else env
  | 4, .inr s, .inr t => bif (q_ieq lo 0 && q_ieq hi 0) && q_ile 0 (q_iv env (.inr s)).1 then (match q_nth env t with
    | some f => (match f.2.2.1, f.2.2.2.2 with
      | 6, .inl c => bif q_ieq c (-1) && q_ile 0 (q_iv env f.2.2.2.1).1 then v_bd1 env s 0 (q_iv env f.2.2.2.1).2 else env
      | _, _ => env)
    | none => env) else env
  | _, _, _ => env
noncomputable def v_bd (env : q_S) (k : Nat) (lo hi : Int) : q_S := match q_nth env k with
  | some e => v_bk (v_bd1 env k lo hi) lo hi e
  | none => env
noncomputable def v_bin3 (op : Nat) (a b : q_N) (env : q_S) (k : q_N → q_S → Bool) : Bool := match q_cse env op a b with
  | some s => k (.inr s) env
  | none => q_new env ((v_ivop op (q_iv env a) (q_iv env b)).1, (v_ivop op (q_iv env a) (q_iv env b)).2, op, a, b) k
noncomputable def v_bin (op : Nat) (a b : q_N) (env : q_S) (k : q_N → q_S → Bool) : Bool := match q_c env a with
  | some x => (match q_c env b with
    | some y => k (.inl (q_fold op x y)) env
    | none => bif Nat.beq op 4 && (q_ieq x 0) then k (.inl 0) env else bif Nat.beq op 4 && (q_ieq x (-1)) then k b env else v_bin3 op a b env k)
  | none => (match q_c env b with
    | some y => bif Nat.beq op 4 && (q_ieq y 0) then k (.inl 0) env else bif Nat.beq op 4 && (q_ieq y (-1)) then k a env else v_bin3 op a b env k
    | none => v_bin3 op a b env k)
/-- a number that must be known: each of its values is a road -/
noncomputable def v_en (s : Nat) (hi : Int) (env : q_S) (k : Int → q_S → Bool) (fuel : Nat) : Int → Bool := Nat.rec (motive := fun _ => Int → Bool) (fun _ => false) (fun _ ih lo => k lo (v_bd env s lo lo) && (bif (q_ile hi lo) then true else ih (lo + 1))) fuel
noncomputable def v_need (a : q_N) (env : q_S) (k : Int → q_S → Bool) : Bool := match a with
  | .inl c => k c env
  | .inr s => v_en s (q_iv env a).2 env k 64 (q_iv env a).1
/-- both are symbols, z is their difference -/
noncomputable def v_ltz (s t : Nat) (z : q_N) (env : q_S) (kt kf : q_S → Bool) : Bool :=
  bif q_ile (q_iv env z).2 (-1) then kt env else bif q_ile 0 (q_iv env z).1 then kf env else match z with
  | .inr k => kt (v_bd (v_bd (v_bd env k (q_iv env z).1 (-1)) s (q_iv env (.inr s)).1 ((q_iv env (.inr t)).2 - 1)) t ((q_iv env (.inr s)).1 + 1) (q_iv env (.inr t)).2) && kf (v_bd (v_bd (v_bd env k 0 (q_iv env z).2) s (q_iv env (.inr t)).1 (q_iv env (.inr s)).2) t (q_iv env (.inr t)).1 (q_iv env (.inr s)).2)
  | .inl _ => kt env && kf env
noncomputable def v_lt (a b : q_N) (env : q_S) (kt kf : q_S → Bool) : Bool :=
  bif (q_ilt ((q_iv env a).2) ((q_iv env b).1)) then kt env else bif (q_ile ((q_iv env b).2) ((q_iv env a).1)) then kf env else
  match a, b with
  | .inr s, .inl c => kt (v_bd env s (q_iv env a).1 (c - 1)) && kf (v_bd env s c (q_iv env a).2)
  | .inl c, .inr s => kt (v_bd env s (c + 1) (q_iv env b).2) && kf (v_bd env s (q_iv env b).1 c)
  | .inr s, .inr t => bif (q_ile (-2147483648) ((q_iv env a).1 - (q_iv env b).2) && q_ile ((q_iv env a).2 - (q_iv env b).1) 2147483647) && ((q_ile (-2147483648) (q_iv env a).1 && q_ile (q_iv env a).2 2147483647) && (q_ile (-2147483648) (q_iv env b).1 && q_ile (q_iv env b).2 2147483647)) then v_bin3 2 a b env (fun z e => v_ltz s t z e kt kf) else kt (v_bd (v_bd env s (q_iv env a).1 ((q_iv env b).2 - 1)) t ((q_iv env a).1 + 1) (q_iv env b).2) && kf (v_bd (v_bd env s (q_iv env b).1 (q_iv env a).2) t (q_iv env b).1 (q_iv env a).2)
  | _, _ => kt env && kf env
noncomputable def v_eq3 (s : Nat) (lo hi c : Int) (env : q_S) (kt kf : q_S → Bool) : Bool :=
  kt (v_bd env s c c) && ((bif (q_ilt lo c) then kf (v_bd env s lo (c - 1)) else true) && (bif (q_ilt c hi) then kf (v_bd env s (c + 1) hi) else true))
noncomputable def v_eq (a b : q_N) (env : q_S) (kt kf : q_S → Bool) : Bool :=
  bif q_nb a b then kt env else
  bif (q_ilt ((q_iv env a).2) ((q_iv env b).1)) then kf env else bif (q_ilt ((q_iv env b).2) ((q_iv env a).1)) then kf env else
  match q_c env a, q_c env b with
  | some x, some y => bif (q_ieq x y) then kt env else kf env
  | none, some y => (match a with
    | .inr s => v_eq3 s (q_iv env a).1 (q_iv env a).2 y env kt kf
    | .inl _ => false)
  | some x, none => (match b with
    | .inr s => v_eq3 s (q_iv env b).1 (q_iv env b).2 x env kt kf
    | .inl _ => false)
  | none, none => (match a, b with
    | .inr s, .inr t => kt (v_bd (v_bd env s (q_iv env b).1 (q_iv env b).2) t (q_iv env a).1 (q_iv env a).2) && kf env
    | _, _ => false)
noncomputable def q_gl (ls : q_L) (i : Nat) : Option q_V := List.rec (motive := fun _ => Option q_V) none (fun h _ ih => bif Nat.beq h.1 i then some h.2 else ih) ls
def q_ct (v : q_V) : Nat := match v with
  | .inr (.inl _) => 2
  | _ => 1
noncomputable def q_fl (ls : q_L) (i : Nat) : q_L := List.rec (motive := fun _ => q_L) [] (fun h _ ih => bif Nat.beq h.1 i || (Nat.beq (h.1 + 1) i && Nat.beq (q_ct h.2) 2) then ih else h :: ih) ls
noncomputable def q_sl (ls : q_L) (i : Nat) (v : q_V) : q_L := (i, v) :: q_fl ls i
def q_fits (ty : FieldType) (v : q_V) (env : q_S) (iv : q_S → q_N → Int × Int) : Bool := match ty, v with
  | .int, .inl _ => true
  | .boolean, .inl a => (q_ile 0 ((iv env a).1)) && (q_ile ((iv env a).2) 1)
  | .object _, .inr (.inr _) => true
  | .array _, .inr (.inr _) => true
  | _, _ => false
noncomputable def q_lsl (l : List q_V) : Nat := List.rec (motive := fun _ => Nat) 0 (fun h _ ih => q_ct h + ih) l
noncomputable def q_args (i : Nat) (l : List q_V) : q_L := List.rec (motive := fun _ => Nat → q_L) (fun _ => []) (fun h _ ih i => (i, h) :: ih (i + q_ct h)) l i
/-- the first n of a stack, the last of them first; and the rest -/
noncomputable def q_tk (n : Nat) (l : List q_V) (k : List q_V → List q_V → Bool) : Bool := Nat.rec (motive := fun _ => List q_V → List q_V → Bool) (fun acc r => k acc r) (fun _ ih acc r => match r with
  | [] => false
  | h :: t => ih (h :: acc) t) n [] l
/-! what the words mean -/
def q_r (ρ : List Int) (a : q_N) (x : Int) : Prop := match a with
  | .inl c => x = c
  | .inr k => ρ[k]? = some x
def q_rv (ρ : List Int) (v : q_V) (w : Value) : Prop := match v with
  | .inl a => ∃ x : Int32, w = .int x ∧ q_r ρ a x.toInt
  | .inr (.inl a) => ∃ x : Int64, w = .long x ∧ q_r ρ a x.toInt
  | .inr (.inr o) => w = va_rf o
def q_al2 {α β : Type} (R : α → β → Prop) : List α → List β → Prop
  | [], [] => True
  | a :: s, b :: t => R a b ∧ q_al2 R s t
  | _, _ => False
def q_re (ρ : List Int) (env : q_S) : Prop := ρ.length = env.length ∧ ∀ (k : Nat) (e : q_E), env[k]? = some e → ∃ x, ρ[k]? = some x ∧ e.1 ≤ x ∧ x ≤ e.2.1 ∧ (e.2.2.1 = 0 ∨ ∃ u v : Int32, q_r ρ e.2.2.2.1 u.toInt ∧ q_r ρ e.2.2.2.2 v.toInt ∧ x = (q_F e.2.2.1 u v).toInt)
def q_px (ρ ρ' : List Int) : Prop := ∃ t, ρ' = ρ ++ t
theorem q_px_rf (ρ : List Int) : q_px ρ ρ := ⟨[], by simp⟩
theorem q_px_tr {a b c : List Int} (h1 : q_px a b) (h2 : q_px b c) : q_px a c := by
  obtain ⟨t, rfl⟩ := h1
  obtain ⟨u, rfl⟩ := h2
  exact ⟨t ++ u, by simp⟩
theorem q_r_px {ρ ρ' : List Int} (h : q_px ρ ρ') {a : q_N} {x : Int} (hr : q_r ρ a x) : q_r ρ' a x := by
  obtain ⟨t, rfl⟩ := h
  cases a with
  | inl c => exact hr
  | inr k =>
    have hr : ρ[k]? = some x := hr
    show (ρ ++ t)[k]? = some x
    rw [List.getElem?_append_left (List.getElem?_eq_some_iff.mp hr).1]
    exact hr
theorem q_rv_px {ρ ρ' : List Int} (h : q_px ρ ρ') {a : q_V} {x : Value} (hr : q_rv ρ a x) : q_rv ρ' a x := by
  match a, hr with
  | .inl a, ⟨x, h1, h2⟩ => exact ⟨x, h1, q_r_px h h2⟩
  | .inr (.inl a), ⟨x, h1, h2⟩ => exact ⟨x, h1, q_r_px h h2⟩
  | .inr (.inr o), hr => exact hr
theorem q_al2_imp {α β : Type} {R S : α → β → Prop} (h : ∀ a b, R a b → S a b) : ∀ {s : List α} {t : List β}, q_al2 R s t → q_al2 S s t
  | [], [], _ => trivial
  | _ :: _, _ :: _, ⟨h1, h2⟩ => ⟨h _ _ h1, q_al2_imp h h2⟩
  | [], _ :: _, h => h.elim
  | _ :: _, [], h => h.elim
theorem q_st_px {ρ ρ' : List Int} (h : q_px ρ ρ') {s : List q_V} {t : List Value} (hr : q_al2 (q_rv ρ) s t) : q_al2 (q_rv ρ') s t := q_al2_imp (fun _ _ => q_rv_px h) hr
theorem q_r_inj {ρ : List Int} {a : q_N} {x y : Int} (h1 : q_r ρ a x) (h2 : q_r ρ a y) : x = y := by
  cases a with
  | inl c => exact h1.trans h2.symm
  | inr k =>
    have h1 : ρ[k]? = some x := h1
    have h2 : ρ[k]? = some y := h2
    exact Option.some.inj (h1.symm.trans h2)
theorem q_nth_eq {α : Type} : ∀ (l : List α) (i : Nat), q_nth l i = l[i]?
  | [], _ => rfl
  | _ :: _, 0 => rfl
  | _ :: t, i + 1 => by
    show q_nth t i = _
    rw [q_nth_eq t i]
    simp
theorem q_put_eq {α : Type} : ∀ (l : List α) (i : Nat) (v : α), q_put l i v = l.set i v
  | [], _, _ => rfl
  | _ :: _, 0, _ => rfl
  | h :: t, i + 1, v => by
    show h :: q_put t i v = _
    rw [q_put_eq t i v]
    simp
theorem q_len_eq {α : Type} : ∀ (l : List α), q_len l = l.length
  | [] => rfl
  | _ :: t => by
    show Nat.succ (q_len t) = _
    rw [q_len_eq t]
    simp
theorem q_app_eq {α : Type} : ∀ (l : List α) (v : α), q_app l v = l ++ [v]
  | [], _ => rfl
  | h :: t, v => by
    show h :: q_app t v = _
    rw [q_app_eq t v]
    simp
theorem q_al2_nth {α β : Type} {R : α → β → Prop} : ∀ {s : List α} {t : List β} (_ : q_al2 R s t) (i : Nat) {a : α}, s[i]? = some a → ∃ b, t[i]? = some b ∧ R a b
  | [], [], _, _, _, h => by simp at h
  | _ :: _, b :: _, ⟨h1, _⟩, 0, a, h => by
    simp at h
    subst h
    exact ⟨b, by simp, h1⟩
  | _ :: s, _ :: t, ⟨_, h2⟩, i + 1, a, h => by
    obtain ⟨b, h3, h4⟩ := q_al2_nth h2 i (by simpa using h)
    exact ⟨b, by simpa using h3, h4⟩
  | [], _ :: _, h, _, _, _ => h.elim
  | _ :: _, [], h, _, _, _ => h.elim
theorem q_al2_len {α β : Type} {R : α → β → Prop} : ∀ {s : List α} {t : List β}, q_al2 R s t → s.length = t.length
  | [], [], _ => rfl
  | _ :: _, _ :: _, ⟨_, h2⟩ => by simp [q_al2_len h2]
  | [], _ :: _, h => h.elim
  | _ :: _, [], h => h.elim
theorem q_ilt_ok (a b : Int) : q_ilt a b = true ↔ a < b := by
  unfold q_ilt
  split
  · rename_i m n
    rw [Nat.blt_eq]
    show m < n ↔ ((m : Int) < (n : Int))
    omega
  · rename_i m n
    have h : Int.negSucc m < (n : Int) := by omega
    exact ⟨fun _ => h, fun _ => rfl⟩
  · rename_i m n
    have h : ¬ (m : Int) < Int.negSucc n := by omega
    exact ⟨fun h => (by cases h), fun h2 => absurd h2 h⟩
  · rw [Nat.blt_eq]; omega
theorem q_ile_ok (a b : Int) : q_ile a b = true ↔ a ≤ b := by
  unfold q_ile
  split
  · rename_i m n
    rw [Nat.ble_eq]
    show m ≤ n ↔ ((m : Int) ≤ (n : Int))
    omega
  · rename_i m n
    have h : Int.negSucc m ≤ (n : Int) := by omega
    exact ⟨fun _ => h, fun _ => rfl⟩
  · rename_i m n
    have h : ¬ (m : Int) ≤ Int.negSucc n := by omega
    exact ⟨fun h => (by cases h), fun h2 => absurd h2 h⟩
  · rw [Nat.ble_eq]; omega
theorem q_ieq_ok (a b : Int) : q_ieq a b = true ↔ a = b := by
  unfold q_ieq
  split
  · rename_i m n
    rw [Nat.beq_eq]
    show m = n ↔ ((m : Int) = (n : Int))
    omega
  · rw [Nat.beq_eq]; omega
  · rename_i h1 h2
    refine ⟨fun h => (by cases h), fun h => ?_⟩
    subst h
    cases a with
    | ofNat m => exact (h1 m m rfl rfl).elim
    | negSucc m => exact (h2 m m rfl rfl).elim
theorem q_ilt_f {a b : Int} (h : q_ilt a b = false) : b ≤ a := by
  have : ¬ a < b := fun h2 => by rw [(q_ilt_ok a b).mpr h2] at h; cases h
  omega
theorem q_ile_f {a b : Int} (h : q_ile a b = false) : b < a := by
  have : ¬ a ≤ b := fun h2 => by rw [(q_ile_ok a b).mpr h2] at h; cases h
  omega
theorem q_ieq_f {a b : Int} (h : q_ieq a b = false) : ¬ a = b := fun h2 => by rw [(q_ieq_ok a b).mpr h2] at h; cases h
theorem q_rng (x : Int32) : -2147483648 ≤ x.toInt ∧ x.toInt ≤ 2147483647 := by
  have h1 := BitVec.le_toInt x.toBitVec
  have h2 := BitVec.toInt_lt (x := x.toBitVec)
  have e : x.toInt = x.toBitVec.toInt := rfl
  rw [e]
  constructor <;> omega
theorem q_of (x : Int32) : Int32.ofInt x.toInt = x := by simp
theorem q_ofr {z : Int} (h1 : -2147483648 ≤ z) (h2 : z ≤ 2147483647) : (Int32.ofInt z).toInt = z := by
  rw [Int32.toInt_ofInt]
  have e : (Int32.size : Int) = 4294967296 := rfl
  exact Int.bmod_eq_of_le (by omega) (by omega)
theorem q_inj {x y : Int32} (h : x.toInt = y.toInt) : x = y := Int32.toInt_inj.mp h
theorem q_nrm_ok (z : Int) : q_nrm z = (Int32.ofInt z).toInt := by
  unfold q_nrm
  cases h : (q_ile (-2147483648) z && q_ile z 2147483647) with
  | false => rfl
  | true =>
    rw [Bool.and_eq_true, q_ile_ok, q_ile_ok] at h
    exact (q_ofr h.1 h.2).symm
theorem q_fold_ok (op : Nat) (x y : Int32) : q_fold op x.toInt y.toInt = (q_F op x y).toInt := by
  unfold q_fold
  cases h1 : Nat.beq op 1 with
  | true =>
    have := Nat.eq_of_beq_eq_true h1
    subst this
    show q_nrm (x.toInt + y.toInt) = (x + y).toInt
    rw [q_nrm_ok, Int32.ofInt_add, q_of, q_of]
  | false =>
    cases h2 : Nat.beq op 2 with
    | true =>
      have := Nat.eq_of_beq_eq_true h2
      subst this
      show q_nrm (x.toInt - y.toInt) = (x - y).toInt
      rw [q_nrm_ok, Int32.ofInt_sub, q_of, q_of]
    | false =>
      show (q_F op (Int32.ofInt x.toInt) (Int32.ofInt y.toInt)).toInt = _
      rw [q_of, q_of]
theorem q_iv_ok {ρ : List Int} {env : q_S} (he : q_re ρ env) {a : q_N} {x : Int} (h : q_r ρ a x) : (q_iv env a).1 ≤ x ∧ x ≤ (q_iv env a).2 := by
  cases a with
  | inl c => have h : x = c := h; subst h; exact ⟨Int.le_refl _, Int.le_refl _⟩
  | inr k =>
    have h : ρ[k]? = some x := h
    have hl := (List.getElem?_eq_some_iff.mp h).1
    rw [he.1] at hl
    have h2 : env[k]? = some env[k] := List.getElem?_eq_getElem hl
    obtain ⟨y, h3, h4, h5, -⟩ := he.2 k _ h2
    have : x = y := Option.some.inj (h.symm.trans h3)
    subst this
    unfold q_iv
    simp only [q_nth_eq, h2]
    exact ⟨h4, h5⟩
theorem q_c_ok {ρ : List Int} {env : q_S} (he : q_re ρ env) {a : q_N} {x c : Int} (h : q_r ρ a x) (hc : q_c env a = some c) : x = c := by
  cases a with
  | inl d => cases hc; exact h
  | inr k =>
    have hi := q_iv_ok he h
    unfold q_c at hc
    unfold q_iv at hi
    dsimp only at hc hi
    cases hn : q_nth env k with
    | none => rw [hn] at hc; cases hc
    | some e =>
      rw [hn] at hc hi
      dsimp only at hc hi
      cases hq : q_ieq e.1 e.2.1 with
      | false => rw [hq] at hc; cases hc
      | true =>
        rw [hq] at hc
        cases hc
        have := (q_ieq_ok _ _).mp hq
        omega
theorem q_new_ok {ρ : List Int} {env : q_S} (he : q_re ρ env) {e : q_E} {z : Int} (h1 : e.1 ≤ z) (h2 : z ≤ e.2.1) (h3 : e.2.2.1 = 0 ∨ ∃ u v : Int32, q_r ρ e.2.2.2.1 u.toInt ∧ q_r ρ e.2.2.2.2 v.toInt ∧ z = (q_F e.2.2.1 u v).toInt) : q_px ρ (ρ ++ [z]) ∧ q_re (ρ ++ [z]) (q_app env e) ∧ q_r (ρ ++ [z]) (.inr (q_len env)) z := by
  have hp : q_px ρ (ρ ++ [z]) := ⟨[z], rfl⟩
  refine ⟨hp, ⟨by rw [q_app_eq]; simp [he.1], fun k e' hk => ?_⟩, ?_⟩
  · rw [q_app_eq] at hk
    by_cases hl : k < env.length
    · rw [List.getElem?_append_left hl] at hk
      obtain ⟨x, a1, a2, a3, a4⟩ := he.2 k e' hk
      refine ⟨x, q_r_px (a := .inr k) hp a1, a2, a3, a4.imp id (fun ⟨u, v, b1, b2, b3⟩ => ⟨u, v, q_r_px hp b1, q_r_px hp b2, b3⟩)⟩
    · rw [List.getElem?_append_right (by omega)] at hk
      have hz : k - env.length < 1 := (List.getElem?_eq_some_iff.mp hk).1
      have e0 : k - env.length = 0 := by omega
      rw [e0] at hk
      cases hk
      have ek : k = ρ.length := by rw [he.1]; omega
      refine ⟨z, by rw [ek]; simp, h1, h2, h3.imp id (fun ⟨u, v, b1, b2, b3⟩ => ⟨u, v, q_r_px hp b1, q_r_px hp b2, b3⟩)⟩
  · show (ρ ++ [z])[q_len env]? = some z
    rw [q_len_eq, ← he.1]
    simp
theorem q_and_iv {x y : Int32} (h : 0 ≤ y.toInt) : 0 ≤ (x &&& y).toInt ∧ (x &&& y).toInt ≤ y.toInt := by
  have e1 : (x &&& y).toInt = (x.toBitVec &&& y.toBitVec).toInt := rfl
  have e2 : y.toInt = y.toBitVec.toInt := rfl
  rw [e1, e2]
  rw [e2] at h
  have hy : y.toBitVec.toNat < 2 ^ 31 := by
    rw [BitVec.toInt_eq_toNat_cond] at h
    have := y.toBitVec.isLt
    split at h
    · omega
    · omega
  have ha : (x.toBitVec &&& y.toBitVec).toNat ≤ y.toBitVec.toNat := by
    rw [BitVec.toNat_and]
    exact Nat.and_le_right
  rw [BitVec.toInt_eq_toNat_cond, BitVec.toInt_eq_toNat_cond, if_pos (by omega), if_pos (by omega)]
  constructor
  · omega
  · exact Int.ofNat_le.mpr ha
theorem q_and_comm (x y : Int32) : x &&& y = y &&& x := Int32.and_comm x y
theorem q_nb_ok {a b : q_N} (h : q_nb a b = true) : a = b := by
  unfold q_nb at h
  split at h
  · rw [q_ieq_ok] at h; rw [h]
  · rw [Nat.eq_of_beq_eq_true h]
  · cases h
theorem q_cse_ok (op : Nat) (a b : q_N) : ∀ (env : q_S) (k0 s : Nat), List.rec (motive := fun _ => Nat → Option Nat) (fun _ => none) (fun h _ ih k => bif Nat.beq h.2.2.1 op && (q_nb h.2.2.2.1 a && q_nb h.2.2.2.2 b) then some k else ih (Nat.succ k)) env k0 = some s → ∃ e, k0 ≤ s ∧ env[s - k0]? = some e ∧ e.2.2.1 = op ∧ e.2.2.2.1 = a ∧ e.2.2.2.2 = b
  | [], k0, s, h => by cases h
  | e :: r, k0, s, h => by
    have h : (bif Nat.beq e.2.2.1 op && (q_nb e.2.2.2.1 a && q_nb e.2.2.2.2 b) then some k0 else List.rec (motive := fun _ => Nat → Option Nat) (fun _ => none) (fun h _ ih k => bif Nat.beq h.2.2.1 op && (q_nb h.2.2.2.1 a && q_nb h.2.2.2.2 b) then some k else ih (Nat.succ k)) r (Nat.succ k0)) = some s := h
    cases hb : (Nat.beq e.2.2.1 op && (q_nb e.2.2.2.1 a && q_nb e.2.2.2.2 b)) with
    | true =>
      rw [hb] at h
      cases h
      rw [Bool.and_eq_true, Bool.and_eq_true] at hb
      exact ⟨e, Nat.le_refl _, by simp, Nat.eq_of_beq_eq_true hb.1, q_nb_ok hb.2.1, q_nb_ok hb.2.2⟩
    | false =>
      rw [hb] at h
      obtain ⟨e2, h1, h2, h3⟩ := q_cse_ok op a b r (Nat.succ k0) s h
      refine ⟨e2, by omega, ?_, h3⟩
      have : s - k0 = (s - Nat.succ k0) + 1 := by omega
      rw [this]
      simpa using h2
def q_bok (k : q_N → q_S → Bool) (ρ : List Int) (z : Int) : Prop := ∃ ρ' env' v, q_px ρ ρ' ∧ q_re ρ' env' ∧ q_r ρ' v z ∧ k v env' = true
theorem q_m1_and (y : Int32) : (-1 : Int32) &&& y = y := by
  apply Int32.toBitVec_inj.mp
  rw [Int32.toBitVec_and]
  have : (-1 : Int32).toBitVec = BitVec.allOnes 32 := by decide
  rw [this, BitVec.allOnes_and]
def q_ro (ρ : List Int) (v : Option q_V) (r : Option Value) : Prop := match v, r with
  | none, none => True
  | some v, some w => q_rv ρ v w
  | _, _ => False
end Prt18
section Prt19
theorem v_mx_l (a b : Int) : a ≤ v_mx a b := by
  unfold v_mx
  cases h : q_ile a b with
  | true => exact (q_ile_ok _ _).mp h
  | false => exact Int.le_refl _
theorem v_mx_r (a b : Int) : b ≤ v_mx a b := by
  unfold v_mx
  cases h : q_ile a b with
  | true => exact Int.le_refl _
  | false => exact Int.le_of_lt (q_ile_f h)
theorem v_mx_le {a b c : Int} (h1 : a ≤ c) (h2 : b ≤ c) : v_mx a b ≤ c := by
  unfold v_mx
  cases h : q_ile a b with
  | true => exact h2
  | false => exact h1
theorem v_mn_l (a b : Int) : v_mn a b ≤ a := by
  unfold v_mn
  cases h : q_ile a b with
  | true => exact Int.le_refl _
  | false => exact Int.le_of_lt (q_ile_f h)
theorem v_mn_r (a b : Int) : v_mn a b ≤ b := by
  unfold v_mn
  cases h : q_ile a b with
  | true => exact (q_ile_ok _ _).mp h
  | false => exact Int.le_refl _
theorem v_le_mn {a b c : Int} (h1 : c ≤ a) (h2 : c ≤ b) : c ≤ v_mn a b := by
  unfold v_mn
  cases h : q_ile a b with
  | true => exact h1
  | false => exact h2
theorem v_nn {x : Int32} (h : 0 ≤ x.toInt) : x.toInt = (x.toBitVec.toNat : Int) ∧ x.toBitVec.toNat < 2 ^ 31 := by
  have e2 : x.toInt = x.toBitVec.toInt := rfl
  rw [e2] at h ⊢
  have h3 := x.toBitVec.isLt
  rw [BitVec.toInt_eq_toNat_cond] at h ⊢
  split at h
  · rename_i h4
    rw [if_pos h4]
    exact ⟨rfl, by omega⟩
  · omega
theorem v_nn2 {x : Int32} (h : x.toBitVec.toNat < 2 ^ 31) : x.toInt = (x.toBitVec.toNat : Int) := by
  have e2 : x.toInt = x.toBitVec.toInt := rfl
  rw [e2, BitVec.toInt_eq_toNat_cond, if_pos (by omega)]
theorem v_cap_ok {a b : Int} {m n : Nat} (h1 : (m : Int) ≤ a) (h2 : (n : Int) ≤ b) : ∃ k : Nat, v_cap a b = ((2 ^ k - 1 : Nat) : Int) ∧ m < 2 ^ k ∧ n < 2 ^ k := by
  refine ⟨Nat.log2 (v_mx a b).toNat + 1, rfl, ?_, ?_⟩
  · have h3 := v_mx_l a b
    have h4 := Nat.lt_log2_self (n := (v_mx a b).toNat)
    omega
  · have h3 := v_mx_r a b
    have h4 := Nat.lt_log2_self (n := (v_mx a b).toNat)
    omega
theorem v_or_ok {x y : Int32} {p q : Int × Int} (h1 : p.1 ≤ x.toInt ∧ x.toInt ≤ p.2) (h2 : q.1 ≤ y.toInt ∧ y.toInt ≤ q.2) (b1 : 0 ≤ p.1) (b2 : 0 ≤ q.1) : v_mx p.1 q.1 ≤ (x ||| y).toInt ∧ (x ||| y).toInt ≤ v_cap p.2 q.2 := by
  obtain ⟨e1, l1⟩ := v_nn (x := x) (by omega)
  obtain ⟨e2, l2⟩ := v_nn (x := y) (by omega)
  have e3 : (x ||| y).toBitVec.toNat = x.toBitVec.toNat ||| y.toBitVec.toNat := by
    rw [Int32.toBitVec_or, BitVec.toNat_or]
  have l3 : (x ||| y).toBitVec.toNat < 2 ^ 31 := by rw [e3]; exact Nat.or_lt_two_pow l1 l2
  rw [v_nn2 l3, e3]
  obtain ⟨k, ek, k1, k2⟩ := v_cap_ok (a := p.2) (b := q.2) (m := x.toBitVec.toNat) (n := y.toBitVec.toNat) (by omega) (by omega)
  have k3 := Nat.or_lt_two_pow k1 k2
  rw [ek]
  have l4 : x.toBitVec.toNat ≤ x.toBitVec.toNat ||| y.toBitVec.toNat := Nat.left_le_or
  have l5 : y.toBitVec.toNat ≤ x.toBitVec.toNat ||| y.toBitVec.toNat := Nat.right_le_or
  exact ⟨v_mx_le (by omega) (by omega), by omega⟩
theorem v_xor_ok {x y : Int32} {p q : Int × Int} (h1 : p.1 ≤ x.toInt ∧ x.toInt ≤ p.2) (h2 : q.1 ≤ y.toInt ∧ y.toInt ≤ q.2) (b1 : 0 ≤ p.1) (b2 : 0 ≤ q.1) : 0 ≤ (x ^^^ y).toInt ∧ (x ^^^ y).toInt ≤ v_cap p.2 q.2 := by
  obtain ⟨e1, l1⟩ := v_nn (x := x) (by omega)
  obtain ⟨e2, l2⟩ := v_nn (x := y) (by omega)
  have e3 : (x ^^^ y).toBitVec.toNat = x.toBitVec.toNat ^^^ y.toBitVec.toNat := by
    rw [Int32.toBitVec_xor, BitVec.toNat_xor]
  have l3 : (x ^^^ y).toBitVec.toNat < 2 ^ 31 := by rw [e3]; exact Nat.xor_lt_two_pow l1 l2
  rw [v_nn2 l3, e3]
  obtain ⟨k, ek, k1, k2⟩ := v_cap_ok (a := p.2) (b := q.2) (m := x.toBitVec.toNat) (n := y.toBitVec.toNat) (by omega) (by omega)
  have k3 := Nat.xor_lt_two_pow k1 k2
  rw [ek]
  exact ⟨by omega, by omega⟩
theorem v_shl1 : ∀ k : Fin 31, ((1 : Int32) <<< (Int32.ofInt ((k : Nat) : Int) &&& 31)).toInt = ((2 ^ (k : Nat) : Nat) : Int) := by decide
theorem v_shl_ok {x y : Int32} {q : Int × Int} (h1 : x.toInt = 1) (h2 : q.1 ≤ y.toInt ∧ y.toInt ≤ q.2) (b1 : 0 ≤ q.1) (b2 : q.2 ≤ 30) : ((2 ^ q.1.toNat : Nat) : Int) ≤ (x <<< (y &&& 31)).toInt ∧ (x <<< (y &&& 31)).toInt ≤ ((2 ^ q.2.toNat : Nat) : Int) := by
  have ex : x = 1 := q_inj (by rw [h1]; rfl)
  subst ex
  have ey : y = Int32.ofInt ((y.toInt.toNat : Nat) : Int) := by
    rw [show ((y.toInt.toNat : Nat) : Int) = y.toInt by omega, q_of]
  have hk := v_shl1 ⟨y.toInt.toNat, by omega⟩
  dsimp only at hk
  rw [← ey] at hk
  rw [hk]
  have m1 : 2 ^ q.1.toNat ≤ 2 ^ y.toInt.toNat := Nat.pow_le_pow_right (by omega) (by omega)
  have m2 : 2 ^ y.toInt.toNat ≤ 2 ^ q.2.toNat := Nat.pow_le_pow_right (by omega) (by omega)
  exact ⟨Int.ofNat_le.mpr m1, Int.ofNat_le.mpr m2⟩
theorem v_shr_ok {x : Int32} (y : Int32) (h : 0 ≤ x.toInt) : 0 ≤ (x >>> y).toInt ∧ (x >>> y).toInt ≤ x.toInt := by
  have e : (x >>> y).toInt = x.toBitVec.toInt >>> (y.toBitVec.smod 32).toNat := by
    show (x >>> y).toBitVec.toInt = _
    rw [Int32.toBitVec_shiftRight, BitVec.sshiftRight_eq', BitVec.toInt_sshiftRight]
  have e2 : x.toInt = x.toBitVec.toInt := rfl
  rw [e, e2, Int.shiftRight_eq_div_pow]
  rw [e2] at h
  have hp : (0 : Int) < ((2 ^ (y.toBitVec.smod 32).toNat : Nat) : Int) := Int.ofNat_lt.mpr (Nat.two_pow_pos _)
  exact ⟨Int.ediv_nonneg h (Int.le_of_lt hp), Int.ediv_le_self _ h⟩
theorem v_div_e {x y : Int32} (h1 : 0 ≤ x.toInt) (h2 : 1 ≤ y.toInt) : (x / y).toInt = x.toInt.tdiv y.toInt ∧ 0 ≤ x.toInt.tdiv y.toInt ∧ x.toInt.tdiv y.toInt ≤ x.toInt := by
  have n1 : 0 ≤ x.toInt.tdiv y.toInt := Int.tdiv_nonneg h1 (by omega)
  have n2 : x.toInt.tdiv y.toInt ≤ x.toInt := Int.tdiv_le_self _ h1
  have r1 := q_rng x
  refine ⟨?_, n1, n2⟩
  rw [Int32.toInt_div]
  exact Int.bmod_eq_of_le (by omega) (by omega)
theorem v_rem_ok {x y : Int32} {p q : Int × Int} (h1 : p.1 ≤ x.toInt ∧ x.toInt ≤ p.2) (h2 : q.1 ≤ y.toInt ∧ y.toInt ≤ q.2) (b1 : 0 ≤ p.1) (b2 : 1 ≤ q.1) : 0 ≤ (x - x / y * y).toInt ∧ (x - x / y * y).toInt ≤ v_mn p.2 (q.2 - 1) := by
  obtain ⟨e1, n1, n2⟩ := v_div_e (x := x) (y := y) (by omega) (by omega)
  have t0 : x.toInt.tmod y.toInt = x.toInt - y.toInt * x.toInt.tdiv y.toInt := Int.tmod_def _ _
  have t1 : 0 ≤ x.toInt.tmod y.toInt := Int.tmod_nonneg _ (by omega)
  have t2 : x.toInt.tmod y.toInt < y.toInt := Int.tmod_lt_of_pos _ (by omega)
  have n3 : 0 ≤ y.toInt * x.toInt.tdiv y.toInt := Int.mul_nonneg (by omega) n1
  have r1 := q_rng x
  have em : (x / y * y).toInt = y.toInt * x.toInt.tdiv y.toInt := by
    rw [← q_of (x / y), ← q_of y, ← Int32.ofInt_mul, q_of, e1, Int.mul_comm]
    exact q_ofr (by omega) (by omega)
  have es : (x - x / y * y).toInt = x.toInt.tmod y.toInt := by
    rw [← q_of x, ← q_of (Int32.ofInt x.toInt / y * y), ← Int32.ofInt_sub, q_of, em, ← t0]
    exact q_ofr (by omega) (by omega)
  rw [es]
  exact ⟨t1, v_le_mn (by omega) (by omega)⟩
theorem v_popN_le : ∀ (f k n : Nat), n < 2 ^ k → v_popN f n ≤ k
  | 0, k, n, _ => Nat.zero_le _
  | f + 1, 0, n, h => by
    have : n = 0 := by simpa using h
    subst this
    have := v_popN_le f 0 0 (by decide)
    show 0 % 2 + v_popN f (0 / 2) ≤ 0
    simpa using this
  | f + 1, k + 1, n, h => by
    have := v_popN_le f k (n / 2) (by rw [Nat.pow_succ] at h; omega)
    show n % 2 + v_popN f (n / 2) ≤ k + 1
    omega
theorem v_popN_f : ∀ (f n : Nat), v_popN f n ≤ f
  | 0, _ => Nat.le_refl _
  | f + 1, n => by
    have := v_popN_f f (n / 2)
    show n % 2 + v_popN f (n / 2) ≤ f + 1
    omega
theorem v_popN_pos : ∀ (f n : Nat), n < 2 ^ f → 1 ≤ n → 1 ≤ v_popN f n
  | 0, n, h, h2 => by
    have : n = 0 := by simpa using h
    omega
  | f + 1, n, h, h2 => by
    show 1 ≤ n % 2 + v_popN f (n / 2)
    by_cases hn : n % 2 = 0
    · have := v_popN_pos f (n / 2) (by rw [Nat.pow_succ] at h; omega) (by omega)
      omega
    · omega
theorem v_pop_e (x : Int32) : (v_pop x).toInt = ((v_popN 32 x.toBitVec.toNat : Nat) : Int) := by
  have := v_popN_f 32 x.toBitVec.toNat
  show (Int32.ofInt ((v_popN 32 x.toBitVec.toNat : Nat) : Int)).toInt = _
  exact q_ofr (by omega) (by omega)
theorem v_pop_ok {x : Int32} {p : Int × Int} (h1 : p.1 ≤ x.toInt ∧ x.toInt ≤ p.2) (b1 : 0 ≤ p.1) : (bif q_ile 1 p.1 then (1 : Int) else 0) ≤ (v_pop x).toInt ∧ (v_pop x).toInt ≤ (bif q_ieq p.2 0 then 0 else ((Nat.log2 p.2.toNat + 1 : Nat) : Int)) := by
  obtain ⟨e1, l1⟩ := v_nn (x := x) (by omega)
  rw [v_pop_e]
  constructor
  · cases h : q_ile 1 p.1 with
    | false => show (0 : Int) ≤ _; omega
    | true =>
      rw [q_ile_ok] at h
      have := v_popN_pos 32 x.toBitVec.toNat x.toBitVec.isLt (by omega)
      show (1 : Int) ≤ _
      omega
  · cases h : q_ieq p.2 0 with
    | true =>
      rw [q_ieq_ok] at h
      have := v_popN_le 32 0 x.toBitVec.toNat (by simp; omega)
      show _ ≤ (0 : Int)
      omega
    | false =>
      have h4 := Nat.lt_log2_self (n := p.2.toNat)
      have := v_popN_le 32 (Nat.log2 p.2.toNat + 1) x.toBitVec.toNat (by omega)
      show _ ≤ ((Nat.log2 p.2.toNat + 1 : Nat) : Int)
      omega
theorem v_ivop_ok (op : Nat) {x y : Int32} {p q : Int × Int} (h1 : p.1 ≤ x.toInt ∧ x.toInt ≤ p.2) (h2 : q.1 ≤ y.toInt ∧ y.toInt ≤ q.2) : (v_ivop op p q).1 ≤ (q_F op x y).toInt ∧ (q_F op x y).toInt ≤ (v_ivop op p q).2 := by
  have hall : ∀ w : Int32, (-2147483648 : Int) ≤ w.toInt ∧ w.toInt ≤ 2147483647 := q_rng
  unfold v_ivop
  split
  · show _ ≤ (x + y).toInt ∧ (x + y).toInt ≤ _
    cases hb : (q_ile (-2147483648) (p.1 + q.1) && q_ile (p.2 + q.2) 2147483647) with
    | false => exact hall _
    | true =>
      rw [Bool.and_eq_true, q_ile_ok, q_ile_ok] at hb
      have e : (x + y).toInt = x.toInt + y.toInt := by
        rw [← q_of x, ← q_of y, ← Int32.ofInt_add, q_of, q_of]
        exact q_ofr (by omega) (by omega)
      rw [e]
      dsimp only [cond_true]
      constructor <;> omega
  · show _ ≤ (x - y).toInt ∧ (x - y).toInt ≤ _
    cases hb : (q_ile (-2147483648) (p.1 - q.2) && q_ile (p.2 - q.1) 2147483647) with
    | false => exact hall _
    | true =>
      rw [Bool.and_eq_true, q_ile_ok, q_ile_ok] at hb
      have e : (x - y).toInt = x.toInt - y.toInt := by
        rw [← q_of x, ← q_of y, ← Int32.ofInt_sub, q_of, q_of]
        exact q_ofr (by omega) (by omega)
      rw [e]
      dsimp only [cond_true]
      constructor <;> omega
  · show _ ≤ (x * y).toInt ∧ (x * y).toInt ≤ _
    cases hb : (q_ile 0 p.1 && (q_ile 0 q.1 && q_ile (p.2 * q.2) 2147483647)) with
    | false => exact hall _
    | true =>
      rw [Bool.and_eq_true, Bool.and_eq_true, q_ile_ok, q_ile_ok, q_ile_ok] at hb
      obtain ⟨b1, b2, b3⟩ := hb
      have m0 : 0 ≤ p.1 * q.1 := Int.mul_nonneg b1 b2
      have m1 : p.1 * q.1 ≤ x.toInt * y.toInt := Int.mul_le_mul h1.1 h2.1 b2 (by omega)
      have m2 : x.toInt * y.toInt ≤ p.2 * q.2 := Int.mul_le_mul h1.2 h2.2 (by omega) (by omega)
      have e : (x * y).toInt = x.toInt * y.toInt := by
        rw [← q_of x, ← q_of y, ← Int32.ofInt_mul, q_of, q_of]
        exact q_ofr (by omega) (by omega)
      rw [e]
      exact ⟨m1, m2⟩
  · show _ ≤ (x &&& y).toInt ∧ (x &&& y).toInt ≤ _
    cases hb : q_ile 0 q.1 with
    | true =>
      rw [q_ile_ok] at hb
      have g1 := q_and_iv (x := x) (y := y) (by omega)
      cases hc : q_ile 0 p.1 with
      | true =>
        rw [q_ile_ok] at hc
        have g2 := q_and_iv (x := y) (y := x) (by omega)
        rw [q_and_comm] at g2
        exact ⟨g1.1, v_le_mn (by omega) (by omega)⟩
      | false =>
        dsimp only [cond_true, cond_false]
        constructor <;> omega
    | false =>
      cases hc : q_ile 0 p.1 with
      | true =>
        rw [q_ile_ok] at hc
        have := q_and_iv (x := y) (y := x) (by omega)
        rw [q_and_comm]
        dsimp only [cond_true, cond_false]
        constructor <;> omega
      | false => exact hall _
  · show _ ≤ (x ||| y).toInt ∧ (x ||| y).toInt ≤ _
    cases hb : (q_ile 0 p.1 && q_ile 0 q.1) with
    | false => exact hall _
    | true =>
      rw [Bool.and_eq_true, q_ile_ok, q_ile_ok] at hb
      exact v_or_ok h1 h2 hb.1 hb.2
  · show _ ≤ (x ^^^ y).toInt ∧ (x ^^^ y).toInt ≤ _
    cases hb : (q_ile 0 p.1 && q_ile 0 q.1) with
    | false => exact hall _
    | true =>
      rw [Bool.and_eq_true, q_ile_ok, q_ile_ok] at hb
      exact v_xor_ok h1 h2 hb.1 hb.2
  · show _ ≤ (x <<< (y &&& 31)).toInt ∧ (x <<< (y &&& 31)).toInt ≤ _
    cases hb : ((q_ieq p.1 1 && q_ieq p.2 1) && (q_ile 0 q.1 && q_ile q.2 30)) with
    | false => exact hall _
    | true =>
      rw [Bool.and_eq_true, Bool.and_eq_true, Bool.and_eq_true, q_ieq_ok, q_ieq_ok, q_ile_ok, q_ile_ok] at hb
      exact v_shl_ok (by omega) h2 hb.2.1 hb.2.2
  · show _ ≤ (x >>> (y &&& 31)).toInt ∧ (x >>> (y &&& 31)).toInt ≤ _
    cases hb : q_ile 0 p.1 with
    | false => exact hall _
    | true =>
      rw [q_ile_ok] at hb
      have := v_shr_ok (x := x) (y &&& 31) (by omega)
      exact ⟨this.1, Int.le_trans this.2 h1.2⟩
  · show _ ≤ (x / y).toInt ∧ (x / y).toInt ≤ _
    cases hb : (q_ile 0 p.1 && q_ile 1 q.1) with
    | false => exact hall _
    | true =>
      rw [Bool.and_eq_true, q_ile_ok, q_ile_ok] at hb
      obtain ⟨e1, n1, n2⟩ := v_div_e (x := x) (y := y) (by omega) (by omega)
      rw [e1]
      exact ⟨n1, Int.le_trans n2 h1.2⟩
  · show _ ≤ (x - x / y * y).toInt ∧ (x - x / y * y).toInt ≤ _
    cases hb : (q_ile 0 p.1 && q_ile 1 q.1) with
    | false => exact hall _
    | true =>
      rw [Bool.and_eq_true, q_ile_ok, q_ile_ok] at hb
      exact v_rem_ok h1 h2 hb.1 hb.2
  · show _ ≤ (if x < y then y else x).toInt ∧ (if x < y then y else x).toInt ≤ _
    have m1 := v_mx_l p.2 q.2
    have m2 := v_mx_r p.2 q.2
    split
    · rename_i hl
      rw [Int32.lt_iff_toInt_lt] at hl
      exact ⟨v_mx_le (by omega) (by omega), by dsimp only; omega⟩
    · rename_i hl
      rw [Int32.lt_iff_toInt_lt] at hl
      exact ⟨v_mx_le (by omega) (by omega), by dsimp only; omega⟩
  · show _ ≤ (if y < x then y else x).toInt ∧ (if y < x then y else x).toInt ≤ _
    have m1 := v_mn_l p.1 q.1
    have m2 := v_mn_r p.1 q.1
    split
    · rename_i hl
      rw [Int32.lt_iff_toInt_lt] at hl
      exact ⟨by dsimp only; omega, v_le_mn (by omega) (by omega)⟩
    · rename_i hl
      rw [Int32.lt_iff_toInt_lt] at hl
      exact ⟨by dsimp only; omega, v_le_mn (by omega) (by omega)⟩
  · show _ ≤ (v_pop x).toInt ∧ (v_pop x).toInt ≤ _
    cases hb : q_ile 0 p.1 with
    | false =>
      have := v_popN_f 32 x.toBitVec.toNat
      rw [v_pop_e]
      dsimp only [cond_false]
      constructor <;> omega
    | true =>
      rw [q_ile_ok] at hb
      exact v_pop_ok h1 hb
  · exact hall _
theorem v_bd1_ok {ρ : List Int} {env : q_S} (he : q_re ρ env) {s : Nat} {x lo hi : Int} (hs : ρ[s]? = some x) (h1 : lo ≤ x) (h2 : x ≤ hi) : q_re ρ (v_bd1 env s lo hi) := by
  unfold v_bd1
  simp only [q_nth_eq, q_put_eq]
  split
  · rename_i e hes
    refine ⟨by rw [List.length_set]; exact he.1, fun k e' hk => ?_⟩
    by_cases hks : k = s
    · subst hks
      rw [List.getElem?_set_self (List.getElem?_eq_some_iff.mp hes).1] at hk
      cases hk
      obtain ⟨y, h3, h4, h5, h6⟩ := he.2 k e hes
      have : x = y := Option.some.inj (hs.symm.trans h3)
      subst this
      exact ⟨x, hs, v_mx_le h4 h1, v_le_mn h5 h2, h6⟩
    · rw [List.getElem?_set_ne (Ne.symm hks)] at hk
      exact he.2 k e' hk
  · exact he
theorem v_andnot {u w : Int32} (h1 : 0 ≤ u.toInt) (h2 : 0 ≤ w.toInt) (h : u &&& (w ^^^ (-1)) = 0) : u.toInt ≤ w.toInt := by
  have hb : u.toBitVec &&& w.toBitVec = u.toBitVec := by
    have h3 : u.toBitVec &&& (w.toBitVec ^^^ BitVec.allOnes 32) = 0#32 := by
      have e : (-1 : Int32).toBitVec = BitVec.allOnes 32 := by decide
      have := congrArg Int32.toBitVec h
      rw [Int32.toBitVec_and, Int32.toBitVec_xor, e] at this
      exact this
    apply BitVec.eq_of_getLsbD_eq
    intro i hi
    have h4 := congrArg (fun b => b.getLsbD i) h3
    simp only [BitVec.getLsbD_and, BitVec.getLsbD_xor, BitVec.getLsbD_allOnes, BitVec.getLsbD_zero, hi, decide_true] at h4 ⊢
    cases hu : u.toBitVec.getLsbD i <;> cases hw : w.toBitVec.getLsbD i <;> simp [hu, hw] at h4 ⊢
  have e2 : (u.toBitVec &&& w.toBitVec).toNat ≤ w.toBitVec.toNat := by
    rw [BitVec.toNat_and]
    exact Nat.and_le_right
  rw [hb] at e2
  rw [(v_nn h1).1, (v_nn h2).1]
  exact Int.ofNat_le.mpr e2
theorem v_bd_ok {ρ : List Int} {env : q_S} (he : q_re ρ env) {s : Nat} {x lo hi : Int} (hs : ρ[s]? = some x) (h1 : lo ≤ x) (h2 : x ≤ hi) : q_re ρ (v_bd env s lo hi) := by
  unfold v_bd
  rw [q_nth_eq]
  split
  · rename_i e hes
    have he1 := v_bd1_ok he hs h1 h2
    obtain ⟨y, h3, h4, h5, h6⟩ := he.2 s e hes
    have : x = y := Option.some.inj (hs.symm.trans h3)
    subst this
    obtain ⟨lo0, hi0, op, a, b⟩ := e
    dsimp only at h6
    unfold v_bk
    dsimp only
    split
    · rename_i t c
      rcases h6 with h6 | ⟨u, v, c1, c2, c3⟩
      · cases h6
      · have c2 : v.toInt = c := c2
        have c1 : ρ[t]? = some u.toInt := c1
        have iv := q_iv_ok he1 (a := .inr t) (x := u.toInt) c1
        cases hb : (q_ile (-2147483648) ((q_iv (v_bd1 env s lo hi) (.inr t)).1 + c) && q_ile ((q_iv (v_bd1 env s lo hi) (.inr t)).2 + c) 2147483647) with
        | false => exact he1
        | true =>
          rw [Bool.and_eq_true, q_ile_ok, q_ile_ok] at hb
          have e9 : (u + v).toInt = u.toInt + v.toInt := by
            rw [← q_of u, ← q_of v, ← Int32.ofInt_add, q_of, q_of]
            exact q_ofr (by omega) (by omega)
          have c3 : x = (u + v).toInt := c3
          exact v_bd1_ok he1 c1 (by omega) (by omega)
    · rename_i s0 t
      rcases h6 with h6 | ⟨u, v, c1, c2, c3⟩
      · cases h6
      · have c3 : x = (u &&& v).toInt := c3
        have c1 : ρ[s0]? = some u.toInt := c1
        have iv := q_iv_ok he1 (a := .inr s0) (x := u.toInt) c1
        cases hb : ((q_ieq lo 0 && q_ieq hi 0) && q_ile 0 (q_iv (v_bd1 env s lo hi) (.inr s0)).1) with
        | false => exact he1
        | true =>
          dsimp only [cond_true]
          rw [Bool.and_eq_true, Bool.and_eq_true, q_ieq_ok, q_ieq_ok, q_ile_ok] at hb
          split
          · rename_i f hf
            rw [q_nth_eq] at hf
            obtain ⟨yv, k1, -, -, k4⟩ := he1.2 t f hf
            have k5 : yv = v.toInt := Option.some.inj (k1.symm.trans (show ρ[t]? = some v.toInt from c2))
            obtain ⟨flo, fhi, fop, fa, fb⟩ := f
            dsimp only at k4 ⊢
            split
            · rename_i c
              cases hb2 : (q_ieq c (-1) && q_ile 0 (q_iv (v_bd1 env s lo hi) fa).1) with
              | false => exact he1
              | true =>
                rw [Bool.and_eq_true, q_ieq_ok, q_ile_ok] at hb2
                rcases k4 with k4 | ⟨w, m, d1, d2, d3⟩
                · cases k4
                · have d2 : m.toInt = c := d2
                  have d3 : yv = (w ^^^ m).toInt := d3
                  have iw := q_iv_ok he1 d1
                  have em : m = -1 := q_inj (by rw [d2, hb2.1]; rfl)
                  have ev : v = w ^^^ (-1) := q_inj (by rw [← k5, d3, em])
                  have e0 : u &&& (w ^^^ (-1)) = 0 := q_inj (by rw [← ev, ← c3]; show x = 0; omega)
                  have := v_andnot (u := u) (w := w) (by omega) (by omega) e0
                  exact v_bd1_ok he1 c1 (by omega) (by omega)
            · exact he1
          · exact he1
    · exact he1
  · exact he
theorem v_bin3_ok {ρ : List Int} {env : q_S} (he : q_re ρ env) {op : Nat} (hop : op ≠ 0) {a b : q_N} {x y : Int32} (ha : q_r ρ a x.toInt) (hb : q_r ρ b y.toInt) {k : q_N → q_S → Bool} (h : v_bin3 op a b env k = true) : q_bok k ρ (q_F op x y).toInt := by
  unfold v_bin3 at h
  split at h
  · rename_i s hs
    obtain ⟨e, -, h2, h3, h4, h5⟩ := q_cse_ok op a b env 0 s hs
    obtain ⟨z, b1, -, -, b4⟩ := he.2 _ e h2
    rcases b4 with b4 | ⟨u, v, c1, c2, c3⟩
    · exact absurd (h3.symm.trans b4) hop
    · rw [h4] at c1
      rw [h5] at c2
      have e1 := q_inj (q_r_inj c1 ha)
      have e2 := q_inj (q_r_inj c2 hb)
      subst e1 e2
      rw [h3] at c3
      refine ⟨ρ, env, .inr s, q_px_rf ρ, he, ?_, h⟩
      show ρ[s]? = some _
      rw [← c3]
      exact b1
  · have hi := v_ivop_ok op (q_iv_ok he ha) (q_iv_ok he hb)
    obtain ⟨n1, n2, n3⟩ := q_new_ok he (e := ((v_ivop op (q_iv env a) (q_iv env b)).1, (v_ivop op (q_iv env a) (q_iv env b)).2, op, a, b)) hi.1 hi.2 (Or.inr ⟨x, y, ha, hb, rfl⟩)
    exact ⟨_, _, _, n1, n2, n3, h⟩
theorem v_bin_ok {ρ : List Int} {env : q_S} (he : q_re ρ env) {op : Nat} (hop : op ≠ 0) {a b : q_N} {x y : Int32} (ha : q_r ρ a x.toInt) (hb : q_r ρ b y.toInt) {k : q_N → q_S → Bool} (h : v_bin op a b env k = true) : q_bok k ρ (q_F op x y).toInt := by
  have hz : ∀ w : Int32, w.toInt = 0 → w = 0 := fun w hw => q_inj (by rw [hw]; rfl)
  have hm : ∀ w : Int32, w.toInt = -1 → w = -1 := fun w hw => q_inj (by rw [hw]; rfl)
  unfold v_bin at h
  split at h
  · rename_i c hc
    have e1 := q_c_ok he ha hc
    split at h
    · rename_i d hd
      have e2 := q_c_ok he hb hd
      refine ⟨ρ, env, _, q_px_rf ρ, he, ?_, h⟩
      rw [← e1, ← e2]
      exact (q_fold_ok op x y).symm
    · cases h1 : (Nat.beq op 4 && q_ieq c 0) with
      | true =>
        rw [h1] at h
        rw [Bool.and_eq_true, q_ieq_ok] at h1
        have e4 := Nat.eq_of_beq_eq_true h1.1
        subst e4
        refine ⟨ρ, env, _, q_px_rf ρ, he, ?_, h⟩
        rw [hz x (e1.trans h1.2)]
        show ((0 : Int32) &&& y).toInt = 0
        rw [Int32.zero_and]
        rfl
      | false =>
        rw [h1] at h
        cases h2 : (Nat.beq op 4 && q_ieq c (-1)) with
        | true =>
          rw [h2] at h
          rw [Bool.and_eq_true, q_ieq_ok] at h2
          have e4 := Nat.eq_of_beq_eq_true h2.1
          subst e4
          refine ⟨ρ, env, _, q_px_rf ρ, he, ?_, h⟩
          rw [hm x (e1.trans h2.2)]
          show q_r ρ b ((-1 : Int32) &&& y).toInt
          rw [q_m1_and]
          exact hb
        | false =>
          rw [h2] at h
          exact v_bin3_ok he hop ha hb h
  · split at h
    · rename_i d hd
      have e2 := q_c_ok he hb hd
      cases h1 : (Nat.beq op 4 && q_ieq d 0) with
      | true =>
        rw [h1] at h
        rw [Bool.and_eq_true, q_ieq_ok] at h1
        have e4 := Nat.eq_of_beq_eq_true h1.1
        subst e4
        refine ⟨ρ, env, _, q_px_rf ρ, he, ?_, h⟩
        rw [hz y (e2.trans h1.2)]
        show (x &&& (0 : Int32)).toInt = 0
        rw [Int32.and_zero]
        rfl
      | false =>
        rw [h1] at h
        cases h2 : (Nat.beq op 4 && q_ieq d (-1)) with
        | true =>
          rw [h2] at h
          rw [Bool.and_eq_true, q_ieq_ok] at h2
          have e4 := Nat.eq_of_beq_eq_true h2.1
          subst e4
          refine ⟨ρ, env, _, q_px_rf ρ, he, ?_, h⟩
          rw [hm y (e2.trans h2.2)]
          show q_r ρ a (x &&& (-1 : Int32)).toInt
          rw [q_and_comm, q_m1_and]
          exact ha
        | false =>
          rw [h2] at h
          exact v_bin3_ok he hop ha hb h
    · exact v_bin3_ok he hop ha hb h
theorem v_en_ok {ρ : List Int} {env : q_S} (he : q_re ρ env) {s : Nat} {x hi : Int} (hs : ρ[s]? = some x) (h2 : x ≤ hi) {k : Int → q_S → Bool} : ∀ (fuel : Nat) (lo : Int), lo ≤ x → v_en s hi env k fuel lo = true → ∃ env', q_re ρ env' ∧ k x env' = true
  | 0, lo, _, h => by cases h
  | n + 1, lo, hl, h => by
    have h : (k lo (v_bd env s lo lo) && (bif q_ile hi lo then true else v_en s hi env k n (lo + 1))) = true := h
    rw [Bool.and_eq_true] at h
    by_cases e : lo = x
    · subst e
      exact ⟨_, v_bd_ok he hs (Int.le_refl _) (Int.le_refl _), h.1⟩
    · cases hb : q_ile hi lo with
      | true => rw [q_ile_ok] at hb; omega
      | false =>
        rw [hb] at h
        exact v_en_ok he hs h2 n (lo + 1) (by omega) h.2
theorem v_need_ok {ρ : List Int} {env : q_S} (he : q_re ρ env) {a : q_N} {x : Int} (ha : q_r ρ a x) {k : Int → q_S → Bool} (h : v_need a env k = true) : ∃ env', q_re ρ env' ∧ k x env' = true := by
  cases a with
  | inl c => have ha : x = c := ha; subst ha; exact ⟨env, he, h⟩
  | inr s =>
    have hi := q_iv_ok he ha
    exact v_en_ok he ha hi.2 64 _ hi.1 h
theorem v_eq3_ok {ρ : List Int} {env : q_S} (he : q_re ρ env) {s : Nat} {x lo hi c : Int} (hs : ρ[s]? = some x) (h1 : lo ≤ x) (h2 : x ≤ hi) {kt kf : q_S → Bool} (h : v_eq3 s lo hi c env kt kf = true) : (x = c ∧ ∃ env', q_re ρ env' ∧ kt env' = true) ∨ (¬ x = c ∧ ∃ env', q_re ρ env' ∧ kf env' = true) := by
  unfold v_eq3 at h
  rw [Bool.and_eq_true, Bool.and_eq_true] at h
  obtain ⟨a1, a2, a3⟩ := h
  by_cases e : x = c
  · subst e
    exact Or.inl ⟨rfl, _, v_bd_ok he hs (Int.le_refl _) (Int.le_refl _), a1⟩
  · refine Or.inr ⟨e, ?_⟩
    by_cases hl : x < c
    · have : q_ilt lo c = true := (q_ilt_ok _ _).mpr (by omega)
      rw [this] at a2
      exact ⟨_, v_bd_ok he hs h1 (by omega), a2⟩
    · have : q_ilt c hi = true := (q_ilt_ok _ _).mpr (by omega)
      rw [this] at a3
      exact ⟨_, v_bd_ok he hs (by omega) h2, a3⟩
theorem v_eq_ok {ρ : List Int} {env : q_S} (he : q_re ρ env) {a b : q_N} {x y : Int} (ha : q_r ρ a x) (hb : q_r ρ b y) {kt kf : q_S → Bool} (h : v_eq a b env kt kf = true) : (x = y ∧ ∃ env', q_re ρ env' ∧ kt env' = true) ∨ (¬ x = y ∧ ∃ env', q_re ρ env' ∧ kf env' = true) := by
  have i1 := q_iv_ok he ha
  have i2 := q_iv_ok he hb
  unfold v_eq at h
  cases h0 : q_nb a b with
  | true =>
    rw [h0] at h
    have := q_nb_ok h0
    subst this
    exact Or.inl ⟨q_r_inj ha hb, env, he, h⟩
  | false =>
    rw [h0] at h
    cases h1 : q_ilt (q_iv env a).2 (q_iv env b).1 with
    | true =>
      rw [h1] at h
      rw [q_ilt_ok] at h1
      exact Or.inr ⟨by omega, env, he, h⟩
    | false =>
      rw [h1] at h
      cases h2 : q_ilt (q_iv env b).2 (q_iv env a).1 with
      | true =>
        rw [h2] at h
        rw [q_ilt_ok] at h2
        exact Or.inr ⟨by omega, env, he, h⟩
      | false =>
        rw [h2] at h
        dsimp only [cond_false] at h
        split at h
        · rename_i u v hu hv
          have e1 := q_c_ok he ha hu
          have e2 := q_c_ok he hb hv
          cases h3 : q_ieq u v with
          | true =>
            rw [h3] at h
            rw [q_ieq_ok] at h3
            exact Or.inl ⟨by omega, env, he, h⟩
          | false =>
            rw [h3] at h
            have := q_ieq_f h3
            exact Or.inr ⟨by omega, env, he, h⟩
        · rename_i v hu hv
          have e2 := q_c_ok he hb hv
          subst e2
          split at h
          · exact v_eq3_ok he ha i1.1 i1.2 h
          · cases h
        · rename_i u hu hv
          have e1 := q_c_ok he ha hu
          subst e1
          split at h
          · rcases v_eq3_ok he hb i2.1 i2.2 h with ⟨g1, g2⟩ | ⟨g1, g2⟩
            · exact Or.inl ⟨g1.symm, g2⟩
            · exact Or.inr ⟨fun e => g1 e.symm, g2⟩
          · cases h
        · split at h
          · rw [Bool.and_eq_true] at h
            by_cases hc : x = y
            · exact Or.inl ⟨hc, _, v_bd_ok (v_bd_ok he ha (by omega) (by omega)) hb (by omega) (by omega), h.1⟩
            · exact Or.inr ⟨hc, env, he, h.2⟩
          · cases h
theorem v_ltz_ok {ρ : List Int} {env : q_S} (he : q_re ρ env) {s t : Nat} {z : q_N} {x y : Int} (ha : ρ[s]? = some x) (hb : ρ[t]? = some y) (hz : q_r ρ z (x - y)) {kt kf : q_S → Bool} (h : v_ltz s t z env kt kf = true) : (x < y ∧ ∃ env', q_re ρ env' ∧ kt env' = true) ∨ (y ≤ x ∧ ∃ env', q_re ρ env' ∧ kf env' = true) := by
  have i1 := q_iv_ok he (a := .inr s) ha
  have i2 := q_iv_ok he (a := .inr t) hb
  have i3 := q_iv_ok he hz
  unfold v_ltz at h
  cases h1 : q_ile (q_iv env z).2 (-1) with
  | true =>
    rw [h1] at h
    rw [q_ile_ok] at h1
    exact Or.inl ⟨by omega, env, he, h⟩
  | false =>
    rw [h1] at h
    cases h2 : q_ile 0 (q_iv env z).1 with
    | true =>
      rw [h2] at h
      rw [q_ile_ok] at h2
      exact Or.inr ⟨by omega, env, he, h⟩
    | false =>
      rw [h2] at h
      dsimp only [cond_false] at h
      split at h
      · rename_i k
        have hz : ρ[k]? = some (x - y) := hz
        rw [Bool.and_eq_true] at h
        by_cases hc : x < y
        · exact Or.inl ⟨hc, _, v_bd_ok (v_bd_ok (v_bd_ok he hz i3.1 (by omega)) ha (by omega) (by omega)) hb (by omega) (by omega), h.1⟩
        · exact Or.inr ⟨by omega, _, v_bd_ok (v_bd_ok (v_bd_ok he hz (by omega) i3.2) ha (by omega) (by omega)) hb (by omega) (by omega), h.2⟩
      · rw [Bool.and_eq_true] at h
        by_cases hc : x < y
        · exact Or.inl ⟨hc, _, he, h.1⟩
        · exact Or.inr ⟨by omega, _, he, h.2⟩
theorem v_lt_ok {ρ : List Int} {env : q_S} (he : q_re ρ env) {a b : q_N} {x y : Int} (ha : q_r ρ a x) (hb : q_r ρ b y) {kt kf : q_S → Bool} (h : v_lt a b env kt kf = true) : (x < y ∧ ∃ ρ' env', q_px ρ ρ' ∧ q_re ρ' env' ∧ kt env' = true) ∨ (y ≤ x ∧ ∃ ρ' env', q_px ρ ρ' ∧ q_re ρ' env' ∧ kf env' = true) := by
  have i1 := q_iv_ok he ha
  have i2 := q_iv_ok he hb
  unfold v_lt at h
  cases h1 : q_ilt (q_iv env a).2 (q_iv env b).1 with
  | true =>
    rw [h1] at h
    rw [q_ilt_ok] at h1
    exact Or.inl ⟨by omega, ρ, env, q_px_rf ρ, he, h⟩
  | false =>
    rw [h1] at h
    cases h2 : q_ile (q_iv env b).2 (q_iv env a).1 with
    | true =>
      rw [h2] at h
      rw [q_ile_ok] at h2
      exact Or.inr ⟨by omega, ρ, env, q_px_rf ρ, he, h⟩
    | false =>
      rw [h2] at h
      dsimp only [cond_false] at h
      split at h
      · rename_i s d
        rw [Bool.and_eq_true] at h
        have hb : y = d := hb
        subst hb
        by_cases hc : x < y
        · exact Or.inl ⟨hc, ρ, _, q_px_rf ρ, v_bd_ok he ha i1.1 (by omega), h.1⟩
        · exact Or.inr ⟨by omega, ρ, _, q_px_rf ρ, v_bd_ok he ha (by omega) i1.2, h.2⟩
      · rename_i d s
        rw [Bool.and_eq_true] at h
        have ha : x = d := ha
        subst ha
        by_cases hc : x < y
        · exact Or.inl ⟨hc, ρ, _, q_px_rf ρ, v_bd_ok he hb (by omega) i2.2, h.1⟩
        · exact Or.inr ⟨by omega, ρ, _, q_px_rf ρ, v_bd_ok he hb i2.1 (by omega), h.2⟩
      · rename_i s t
        have plain : (kt (v_bd (v_bd env s (q_iv env (.inr s)).1 ((q_iv env (.inr t)).2 - 1)) t ((q_iv env (.inr s)).1 + 1) (q_iv env (.inr t)).2) && kf (v_bd (v_bd env s (q_iv env (.inr t)).1 (q_iv env (.inr s)).2) t (q_iv env (.inr t)).1 (q_iv env (.inr s)).2)) = true → (x < y ∧ ∃ ρ' env', q_px ρ ρ' ∧ q_re ρ' env' ∧ kt env' = true) ∨ (y ≤ x ∧ ∃ ρ' env', q_px ρ ρ' ∧ q_re ρ' env' ∧ kf env' = true) := by
          intro h
          rw [Bool.and_eq_true] at h
          by_cases hc : x < y
          · exact Or.inl ⟨hc, ρ, _, q_px_rf ρ, v_bd_ok (v_bd_ok he ha (by omega) (by omega)) hb (by omega) (by omega), h.1⟩
          · exact Or.inr ⟨by omega, ρ, _, q_px_rf ρ, v_bd_ok (v_bd_ok he ha (by omega) (by omega)) hb (by omega) (by omega), h.2⟩
        cases hcd : ((q_ile (-2147483648) ((q_iv env (.inr s)).1 - (q_iv env (.inr t)).2) && q_ile ((q_iv env (.inr s)).2 - (q_iv env (.inr t)).1) 2147483647) && ((q_ile (-2147483648) (q_iv env (.inr s)).1 && q_ile (q_iv env (.inr s)).2 2147483647) && (q_ile (-2147483648) (q_iv env (.inr t)).1 && q_ile (q_iv env (.inr t)).2 2147483647))) with
        | false => rw [hcd] at h; exact plain h
        | true =>
          rw [hcd] at h
          dsimp only [cond_true] at h
          simp only [Bool.and_eq_true, q_ile_ok] at hcd
          obtain ⟨⟨c1, c2⟩, ⟨c3, c4⟩, c5, c6⟩ := hcd
          have ex : (Int32.ofInt x).toInt = x := q_ofr (by omega) (by omega)
          have ey : (Int32.ofInt y).toInt = y := q_ofr (by omega) (by omega)
          obtain ⟨ρ1, e1, z, p1, p2, p3, p4⟩ := v_bin3_ok he (op := 2) (by decide) (x := Int32.ofInt x) (y := Int32.ofInt y) (by rw [ex]; exact ha) (by rw [ey]; exact hb) h
          have ez : (q_F 2 (Int32.ofInt x) (Int32.ofInt y)).toInt = x - y := by
            show (Int32.ofInt x - Int32.ofInt y).toInt = _
            rw [← Int32.ofInt_sub]
            exact q_ofr (by omega) (by omega)
          rw [ez] at p3
          rcases v_ltz_ok p2 (q_r_px p1 ha) (q_r_px p1 hb) p3 p4 with ⟨g1, g2, g3, g4⟩ | ⟨g1, g2, g3, g4⟩
          · exact Or.inl ⟨g1, ρ1, g2, p1, g3, g4⟩
          · exact Or.inr ⟨g1, ρ1, g2, p1, g3, g4⟩
      · rw [Bool.and_eq_true] at h
        by_cases hc : x < y
        · exact Or.inl ⟨hc, ρ, env, q_px_rf ρ, he, h.1⟩
        · exact Or.inr ⟨by omega, ρ, env, q_px_rf ρ, he, h.2⟩
end Prt19
