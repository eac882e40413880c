theorem g_MF_ok {x : Nat} {f : Nat × Nat × Nat × Nat × Nat × Nat × Nat × Nat × Nat × Nat} {M : g_M} (h1 : g_MF[x]? = some f) (h2 : g_ml[x]? = some M) (h3 : f.1 ≠ 9) : g_mck f M = true ∧ Cond.code M.2.1 M.2.2.1 M.2.2.2.1 M.2.2.2.2.1 ∈ g_wk := by
  match x, h1, h2 with
  | 0, h1, h2 => cases h1; exact absurd rfl h3
  | 1, h1, h2 => cases h1; cases h2; exact ⟨mkX0_init, cwX0_init⟩
  | 2, h1, h2 => cases h1; cases h2; exact ⟨mkX0_go, cwX0_go⟩
  | 3, h1, h2 => cases h1; cases h2; exact ⟨mkX0_pass, cwX0_pass⟩
  | 4, h1, h2 => cases h1; cases h2; exact ⟨mkX0_weaken, cwX0_weaken⟩
  | 5, h1, h2 => cases h1; cases h2; exact ⟨mkX0_strengthen, cwX0_strengthen⟩
  | 6, h1, h2 => cases h1; cases h2; exact ⟨mkX0_teach, cwX0_teach⟩
  | 7, h1, h2 => cases h1; cases h2; exact ⟨mkX0_breakToys, cwX0_breakToys⟩
  | 8, h1, h2 => cases h1; cases h2; exact ⟨mkX0_quarrelAll, cwX0_quarrelAll⟩
  | 9, h1, h2 => cases h1; cases h2; exact ⟨mkX0_recover, cwX0_recover⟩
  | 10, h1, h2 => cases h1; cases h2; exact ⟨mkX0_sicken, cwX0_sicken⟩
  | 11, h1, h2 => cases h1; cases h2; exact ⟨mkX0_askRules, cwX0_askRules⟩
  | 12, h1, h2 => cases h1; cases h2; exact ⟨mkX1_init, cwX1_init⟩
  | 13, h1, h2 => cases h1; cases h2; exact ⟨mkX1_clear, cwX1_clear⟩
  | 14, h1, h2 => cases h1; cases h2; exact ⟨mkX1_openClause, cwX1_openClause⟩
  | 15, h1, h2 => cases h1; cases h2; exact ⟨mkX1_openCondition, cwX1_openCondition⟩
  | 16, h1, h2 => cases h1; cases h2; exact ⟨mkX1_closeClause, cwX1_closeClause⟩
  | 17, h1, h2 => cases h1; cases h2; exact ⟨mkX1_put, cwX1_put⟩
  | 18, h1, h2 => cases h1; cases h2; exact ⟨mkX1_land, cwX1_land⟩
  | 19, h1, h2 => cases h1; cases h2; exact ⟨mkX1_run, cwX1_run⟩
  | 20, h1, h2 => cases h1; cases h2; exact ⟨mkX1_valueAt, cwX1_valueAt⟩
  | 21, h1, h2 => cases h1; cases h2; exact ⟨mkX1_join, cwX1_join⟩
  | 22, h1, h2 => cases h1; cases h2; exact ⟨mkX2_init, cwX2_init⟩
  | 23, h1, h2 => cases h1; cases h2; exact ⟨mkX2_keeperOf, cwX2_keeperOf⟩
  | 24, h1, h2 => cases h1; cases h2; exact ⟨mkX2_readRow, cwX2_readRow⟩
  | 25, h1, h2 => cases h1; cases h2; exact ⟨mkX2_envious, cwX2_envious⟩
  | 26, h1, h2 => cases h1; cases h2; exact ⟨mkX2_highest, cwX2_highest⟩
  | 27, h1, h2 => cases h1; cases h2; exact ⟨mkX2_dearest, cwX2_dearest⟩
  | 28, h1, h2 => cases h1; cases h2; exact ⟨mkX2_higher, cwX2_higher⟩
  | 29, h1, h2 => cases h1; cases h2; exact ⟨mkX2_dearer, cwX2_dearer⟩
  | 30, h1, h2 => cases h1; cases h2; exact ⟨mkX3_init, cwX3_init⟩
  | 31, h1, h2 => cases h1; cases h2; exact ⟨mkX3_exchangeLaw, cwX3_exchangeLaw⟩
  | 32, h1, h2 => cases h1; cases h2; exact ⟨mkX3_exchangeRules, cwX3_exchangeRules⟩
  | 33, h1, h2 => cases h1; cases h2; exact ⟨mkX3_clauses, cwX3_clauses⟩
  | 34, h1, h2 => cases h1; cases h2; exact ⟨mkX3_ruleCount, cwX3_ruleCount⟩
  | 35, h1, h2 => cases h1; cases h2; exact ⟨mkX3_ofGust, cwX3_ofGust⟩
  | 36, h1, h2 => cases h1; cases h2; exact ⟨mkX3_learns, cwX3_learns⟩
  | 37, h1, h2 => cases h1; cases h2; exact ⟨mkX3_atOdds, cwX3_atOdds⟩
  | 38, h1, h2 => cases h1; cases h2; exact ⟨mkX3_illness, cwX3_illness⟩
  | 39, h1, h2 => cases h1; cases h2; exact ⟨mkX3_firstBroken, cwX3_firstBroken⟩
  | 40, h1, h2 => cases h1; cases h2; exact ⟨mkX3_lookAtGust, cwX3_lookAtGust⟩
  | 41, h1, h2 => cases h1; cases h2; exact ⟨mkX3_lookAtTwo, cwX3_lookAtTwo⟩
  | 42, h1, h2 => cases h1; cases h2; exact ⟨mkX3_lookAtWard, cwX3_lookAtWard⟩
  | 43, h1, h2 => cases h1; cases h2; exact ⟨mkX3_firstAmount, cwX3_firstAmount⟩
  | 44, h1, h2 => cases h1; cases h2; exact ⟨mkX3_anyHolds, cwX3_anyHolds⟩
  | 45, h1, h2 => cases h1; cases h2; exact ⟨mkX4_init, cwX4_init⟩
  | 46, h1, h2 => cases h1; cases h2; exact ⟨mkX4_lodge, cwX4_lodge⟩
  | 47, h1, h2 => cases h1; cases h2; exact ⟨mkX4_staff, cwX4_staff⟩
  | 48, h1, h2 => cases h1; cases h2; exact ⟨mkX4_chosenFor, cwX4_chosenFor⟩
  | 49, h1, h2 => cases h1; cases h2; exact ⟨mkX4_ring, cwX4_ring⟩
  | 50, h1, h2 => cases h1; cases h2; exact ⟨mkX4_ringAt, cwX4_ringAt⟩
  | 51, h1, h2 => cases h1; cases h2; exact ⟨mkX4_spread, cwX4_spread⟩
  | 52, h1, h2 => cases h1; cases h2; exact ⟨mkX4_learnOdds, cwX4_learnOdds⟩
  | 53, h1, h2 => cases h1; cases h2; exact ⟨mkX4_lodgeFrom, cwX4_lodgeFrom⟩
  | 54, h1, h2 => cases h1; cases h2; exact ⟨mkX4_staffFrom, cwX4_staffFrom⟩
  | 55, h1, h2 => cases h1; cases h2; exact ⟨mkX4_keepRow, cwX4_keepRow⟩
  | 56, h1, h2 => cases h1; cases h2; exact ⟨mkX4_waysOn, cwX4_waysOn⟩
  | 57, h1, h2 => cases h1; cases h2; exact ⟨mkX4_walkFirst, cwX4_walkFirst⟩
  | 58, h1, h2 => cases h1; cases h2; exact ⟨mkX4_firstOn, cwX4_firstOn⟩
  | 59, h1, h2 => cases h1; cases h2; exact ⟨mkX5_init, cwX5_init⟩
  | 60, h1, h2 => cases h1; cases h2; exact ⟨mkX5_readText, cwX5_readText⟩
  | 61, h1, h2 => cases h1; cases h2; exact ⟨mkX5_readTimetable, cwX5_readTimetable⟩
  | 62, h1, h2 => cases h1; cases h2; exact ⟨mkX5_begin, cwX5_begin⟩
  | 63, h1, h2 => cases h1; cases h2; exact ⟨mkX5_here, cwX5_here⟩
  | 64, h1, h2 => cases h1; cases h2; exact ⟨mkX5_fail, cwX5_fail⟩
  | 65, h1, h2 => cases h1; cases h2; exact ⟨mkX5_expect, cwX5_expect⟩
  | 66, h1, h2 => cases h1; cases h2; exact ⟨mkX5_opens, cwX5_opens⟩
  | 67, h1, h2 => cases h1; cases h2; exact ⟨mkX5_readClause, cwX5_readClause⟩
  | 68, h1, h2 => cases h1; cases h2; exact ⟨mkX5_readRule, cwX5_readRule⟩
  | 69, h1, h2 => cases h1; cases h2; exact ⟨mkX5_readWhole, cwX5_readWhole⟩
  | 70, h1, h2 => cases h1; cases h2; exact ⟨mkX5_readBracket, cwX5_readBracket⟩
  | 71, h1, h2 => cases h1; cases h2; exact ⟨mkX5_readCondition, cwX5_readCondition⟩
  | 72, h1, h2 => cases h1; cases h2; exact ⟨mkX5_readPart, cwX5_readPart⟩
  | 73, h1, h2 => cases h1; cases h2; exact ⟨mkX5_readTest, cwX5_readTest⟩
  | 74, h1, h2 => cases h1; cases h2; exact ⟨mkX5_readSum, cwX5_readSum⟩
  | 75, h1, h2 => cases h1; cases h2; exact ⟨mkX5_readTerm, cwX5_readTerm⟩
  | 76, h1, h2 => cases h1; cases h2; exact ⟨mkX5_readFactor, cwX5_readFactor⟩
  | 77, h1, h2 => cases h1; cases h2; exact ⟨mkX5_readNumber, cwX5_readNumber⟩
  | 78, h1, h2 => cases h1; cases h2; exact ⟨mkX5_readMonths, cwX5_readMonths⟩
  | 79, h1, h2 => cases h1; cases h2; exact ⟨mkX5_readMonth, cwX5_readMonth⟩
  | 80, h1, h2 => cases h1; cases h2; exact ⟨mkX5_readGroup, cwX5_readGroup⟩
  | 81, h1, h2 => cases h1; cases h2; exact ⟨mkX5_writeMonth, cwX5_writeMonth⟩
  | 82, h1, h2 => cases h1; cases h2; exact ⟨mkX5_repeat, cwX5_repeat⟩
  | 83, h1, h2 => cases h1; cases h2; exact ⟨mkX6_init, cwX6_init⟩
  | 84, h1, h2 => cases h1; cases h2; exact ⟨mkX6_order, cwX6_order⟩
  | 85, h1, h2 => cases h1; cases h2; exact ⟨mkX6_withNeeds, cwX6_withNeeds⟩
  | 86, h1, h2 => cases h1; cases h2; exact ⟨mkX6_lowestReady, cwX6_lowestReady⟩
  | 87, h1, h2 => cases h1; cases h2; exact ⟨mkX7_init, cwX7_init⟩
  | 88, h1, h2 => cases h1; cases h2; exact ⟨mkX7_hasGust, cwX7_hasGust⟩
  | 89, h1, h2 => cases h1; cases h2; exact ⟨mkX7_hasNurse, cwX7_hasNurse⟩
  | 90, h1, h2 => cases h1; cases h2; exact ⟨mkX7_works, cwX7_works⟩
  | 91, h1, h2 => cases h1; cases h2; exact ⟨mkX7_inWard, cwX7_inWard⟩
  | 92, h1, h2 => cases h1; cases h2; exact ⟨mkX7_draw, cwX7_draw⟩
  | 93, h1, h2 => cases h1; cases h2; exact ⟨mkX7_copy, cwX7_copy⟩
  | 94, h1, h2 => cases h1; cases h2; exact ⟨mkX8_init, cwX8_init⟩
  | 95, h1, h2 => cases h1; cases h2; exact ⟨mkX8_takes, cwX8_takes⟩
  | 96, h1, h2 => cases h1; cases h2; exact ⟨mkX8_append, cwX8_append⟩
  | 97, h1, h2 => cases h1; cases h2; exact ⟨mkX8_at, cwX8_at⟩
  | 98, h1, h2 => cases h1; cases h2; exact ⟨mkX8_empty, cwX8_empty⟩
  | 99, h1, h2 => cases h1; cases h2; exact ⟨mkX9_init, cwX9_init⟩
  | 100, h1, h2 => cases h1; cases h2; exact ⟨mkX9_learnFrom, cwX9_learnFrom⟩
  | 101, h1, h2 => cases h1; cases h2; exact ⟨mkX9_lessonAt, cwX9_lessonAt⟩
  | 102, h1, h2 => cases h1; cases h2; exact ⟨mkX9_placeAfter, cwX9_placeAfter⟩
  | 103, h1, h2 => cases h1; cases h2; exact ⟨mkX10_init, cwX10_init⟩
  | 104, h1, h2 => cases h1; cases h2; exact ⟨mkX10_sendOff, cwX10_sendOff⟩
  | 105, h1, h2 => cases h1; cases h2; exact ⟨mkX10_windOf, cwX10_windOf⟩
  | 106, h1, h2 => cases h1; cases h2; exact ⟨mkX10_sendFrom, cwX10_sendFrom⟩
  | 107, h1, h2 => cases h1; cases h2; exact ⟨mkX10_mayBeat, cwX10_mayBeat⟩
  | 108, h1, h2 => cases h1; cases h2; exact ⟨mkX10_windOfGale, cwX10_windOfGale⟩
  | 109, h1, h2 => cases h1; cases h2; exact ⟨mkX10_carries, cwX10_carries⟩
  | 110, h1, h2 => cases h1; cases h2; exact ⟨mkX11_init, cwX11_init⟩
  | 111, h1, h2 => cases h1; cases h2; exact ⟨mkX11_gust, cwX11_gust⟩
  | 112, h1, h2 => cases h1; cases h2; exact ⟨mkX11_name, cwX11_name⟩
  | 113, h1, h2 => cases h1; cases h2; exact ⟨mkX11_moves, cwX11_moves⟩
  | 114, h1, h2 => cases h1; cases h2; exact ⟨mkX11_habit, cwX11_habit⟩
  | 115, h1, h2 => cases h1; cases h2; exact ⟨mkX11_ward, cwX11_ward⟩
  | 116, h1, h2 => cases h1; cases h2; exact ⟨mkX11_nurse, cwX11_nurse⟩
  | 117, h1, h2 => cases h1; cases h2; exact ⟨mkX11_needs, cwX11_needs⟩
  | 118, h1, h2 => cases h1; cases h2; exact ⟨mkX11_wind, cwX11_wind⟩
  | 119, h1, h2 => cases h1; cases h2; exact ⟨mkX11_home, cwX11_home⟩
  | 120, h1, h2 => cases h1; cases h2; exact ⟨mkX11_house, cwX11_house⟩
  | 121, h1, h2 => cases h1; cases h2; exact ⟨mkX11_seed, cwX11_seed⟩
  | 122, h1, h2 => cases h1; cases h2; exact ⟨mkX11_feed, cwX11_feed⟩
  | 123, h1, h2 => cases h1; cases h2; exact ⟨mkX11_law, cwX11_law⟩
  | 124, h1, h2 => cases h1; cases h2; exact ⟨mkX11_rules, cwX11_rules⟩
  | 125, h1, h2 => cases h1; cases h2; exact ⟨mkX11_timetable, cwX11_timetable⟩
  | 126, h1, h2 => cases h1; cases h2; exact ⟨mkX11_months, cwX11_months⟩
  | 127, h1, h2 => cases h1; cases h2; exact ⟨mkX11_tried, cwX11_tried⟩
  | 128, h1, h2 => cases h1; cases h2; exact ⟨mkX11_gustIs, cwX11_gustIs⟩
  | 129, h1, h2 => cases h1; cases h2; exact ⟨mkX11_wardIs, cwX11_wardIs⟩
  | 130, h1, h2 => cases h1; cases h2; exact ⟨mkX11_nurseIs, cwX11_nurseIs⟩
  | 131, h1, h2 => cases h1; cases h2; exact ⟨mkX11_quarrel, cwX11_quarrel⟩
  | 132, h1, h2 => cases h1; cases h2; exact ⟨mkX11_count, cwX11_count⟩
  | 133, h1, h2 => cases h1; cases h2; exact ⟨mkX11_added, cwX11_added⟩
  | 134, h1, h2 => cases h1; cases h2; exact ⟨mkX11_housed, cwX11_housed⟩
  | 135, h1, h2 => cases h1; cases h2; exact ⟨mkX11_leaving, cwX11_leaving⟩
  | 136, h1, h2 => cases h1; cases h2; exact ⟨mkX11_letGo, cwX11_letGo⟩
  | 137, h1, h2 => cases h1; cases h2; exact ⟨mkX11_from, cwX11_from⟩
  | 138, h1, h2 => cases h1; cases h2; exact ⟨mkX11_taught, cwX11_taught⟩
  | 139, h1, h2 => cases h1; cases h2; exact ⟨mkX11_placed, cwX11_placed⟩
  | 140, h1, h2 => cases h1; cases h2; exact ⟨mkX11_fair, cwX11_fair⟩
  | 141, h1, h2 => cases h1; cases h2; exact ⟨mkX11_escaped, cwX11_escaped⟩
  | 142, h1, h2 => cases h1; cases h2; exact ⟨mkX11_nursed, cwX11_nursed⟩
  | 143, h1, h2 => cases h1; cases h2; exact ⟨mkX11_round, cwX11_round⟩
  | 144, h1, h2 => cases h1; cases h2; exact ⟨mkX11_keep, cwX11_keep⟩
  | 145, h1, h2 => cases h1; cases h2; exact ⟨mkX11_undo, cwX11_undo⟩
  | 146, h1, h2 => cases h1; cases h2; exact ⟨mkX11_check, cwX11_check⟩
  | 147, h1, h2 => cases h1; cases h2; exact ⟨mkX11_within, cwX11_within⟩
  | 148, h1, h2 => cases h1; cases h2; exact ⟨mkX11_isIn, cwX11_isIn⟩
  | 149, h1, h2 => cases h1; cases h2; exact ⟨mkX11_placeIn, cwX11_placeIn⟩
  | 150, h1, h2 => cases h1; cases h2; exact ⟨mkX11_chosen, cwX11_chosen⟩
  | 151, h1, h2 => cases h1; cases h2; exact ⟨mkX11_wardAt, cwX11_wardAt⟩
  | 152, h1, h2 => cases h1; cases h2; exact ⟨mkX11_northward, cwX11_northward⟩
  | 153, h1, h2 => cases h1; cases h2; exact ⟨mkX11_homesLike, cwX11_homesLike⟩
  | 154, h1, h2 => cases h1; cases h2; exact ⟨mkX11_mostTelling, cwX11_mostTelling⟩
  | 155, h1, h2 => cases h1; cases h2; exact ⟨mkX11_homesWith, cwX11_homesWith⟩
  | 156, h1, h2 => cases h1; cases h2; exact ⟨mkX11_sought, cwX11_sought⟩
  | 157, h1, h2 => cases h1; cases h2; exact ⟨mkX11_sightingsStand, cwX11_sightingsStand⟩
  | 158, h1, h2 => cases h1; cases h2; exact ⟨mkX11_sightingsAgree, cwX11_sightingsAgree⟩
  | 159, h1, h2 => cases h1; cases h2; exact ⟨mkX12_init, cwX12_init⟩
  | 160, h1, h2 => cases h1; cases h2; exact ⟨mkX12_lies, cwX12_lies⟩
  | 161, h1, h2 => cases h1; cases h2; exact ⟨mkX12_has, cwX12_has⟩
  | 162, h1, h2 => cases h1; cases h2; exact ⟨mkX12_sizeOf, cwX12_sizeOf⟩
  | 163, h1, h2 => cases h1; cases h2; exact ⟨mkX12_held, cwX12_held⟩
  | 164, h1, h2 => cases h1; cases h2; exact ⟨mkX12_push, cwX12_push⟩
  | 165, h1, h2 => cases h1; cases h2; exact ⟨mkX12_feed, cwX12_feed⟩
  | 166, h1, h2 => cases h1; cases h2; exact ⟨mkX12_byteAt, cwX12_byteAt⟩
  | 167, h1, h2 => cases h1; cases h2; exact ⟨mkX12_here, cwX12_here⟩
  | 168, h1, h2 => cases h1; cases h2; exact ⟨mkX12_wrongs, cwX12_wrongs⟩
  | 169, h1, h2 => cases h1; cases h2; exact ⟨mkX12_isGood, cwX12_isGood⟩
  | 170, h1, h2 => cases h1; cases h2; exact ⟨mkX12_seesDigit, cwX12_seesDigit⟩
  | 171, h1, h2 => cases h1; cases h2; exact ⟨mkX12_begins, cwX12_begins⟩
  | 172, h1, h2 => cases h1; cases h2; exact ⟨mkX12_emit, cwX12_emit⟩
  | 173, h1, h2 => cases h1; cases h2; exact ⟨mkX12_top, cwX12_top⟩
  | 174, h1, h2 => cases h1; cases h2; exact ⟨mkX12_puts, cwX12_puts⟩
  | 175, h1, h2 => cases h1; cases h2; exact ⟨mkX12_opens, cwX12_opens⟩
  | 176, h1, h2 => cases h1; cases h2; exact ⟨mkX12_reads, cwX12_reads⟩
  | 177, h1, h2 => cases h1; cases h2; exact ⟨mkX12_isTimes, cwX12_isTimes⟩
  | 178, h1, h2 => cases h1; cases h2; exact ⟨mkX12_isPlus, cwX12_isPlus⟩
  | 179, h1, h2 => cases h1; cases h2; exact ⟨mkX12_isCompared, cwX12_isCompared⟩
  | 180, h1, h2 => cases h1; cases h2; exact ⟨mkX12_isValue, cwX12_isValue⟩
  | 181, h1, h2 => cases h1; cases h2; exact ⟨mkX12_sums, cwX12_sums⟩
  | 182, h1, h2 => cases h1; cases h2; exact ⟨mkX12_joins, cwX12_joins⟩
  | 183, h1, h2 => cases h1; cases h2; exact ⟨mkX12_ends, cwX12_ends⟩
  | 184, h1, h2 => cases h1; cases h2; exact ⟨mkX12_factor, cwX12_factor⟩
  | 185, h1, h2 => cases h1; cases h2; exact ⟨mkX12_stays, cwX12_stays⟩
  | 186, h1, h2 => cases h1; cases h2; exact ⟨mkX12_value, cwX12_value⟩
  | 187, h1, h2 => cases h1; cases h2; exact ⟨mkX12_pieceOfC, cwX12_pieceOfC⟩
  | 188, h1, h2 => cases h1; cases h2; exact ⟨mkX12_goesBehind, cwX12_goesBehind⟩
  | 189, h1, h2 => cases h1; cases h2; exact ⟨mkX12_condition, cwX12_condition⟩
  | 190, h1, h2 => cases h1; cases h2; exact ⟨mkX12_isClause, cwX12_isClause⟩
  | 191, h1, h2 => cases h1; cases h2; exact ⟨mkX12_clause, cwX12_clause⟩
  | 192, h1, h2 => cases h1; cases h2; exact ⟨mkX12_takesText, cwX12_takesText⟩
  | 193, h1, h2 => cases h1; cases h2; exact ⟨mkX12_law, cwX12_law⟩
  | 194, h1, h2 => cases h1; cases h2; exact ⟨mkX12_rules, cwX12_rules⟩
  | 195, h1, h2 => cases h1; cases h2; exact ⟨mkX12_valueOf, cwX12_valueOf⟩
  | 196, h1, h2 => cases h1; cases h2; exact ⟨mkX12_worked, cwX12_worked⟩
  | 197, h1, h2 => cases h1; cases h2; exact ⟨mkX12_does, cwX12_does⟩
  | 198, h1, h2 => cases h1; cases h2; exact ⟨mkX12_works, cwX12_works⟩
  | 199, h1, h2 => cases h1; cases h2; exact ⟨mkX12_isSo, cwX12_isSo⟩
  | 200, h1, h2 => cases h1; cases h2; exact ⟨mkX12_tells, cwX12_tells⟩
  | 201, h1, h2 => cases h1; cases h2; exact ⟨mkX12_says, cwX12_says⟩
  | 202, h1, h2 => cases h1; cases h2; exact ⟨mkX12_nothingStands, cwX12_nothingStands⟩
  | 203, h1, h2 => cases h1; cases h2; exact ⟨mkX12_gustStands, cwX12_gustStands⟩
  | 204, h1, h2 => cases h1; cases h2; exact ⟨mkX12_falling, cwX12_falling⟩
  | 205, h1, h2 => cases h1; cases h2; exact ⟨mkX12_isKeptBy, cwX12_isKeptBy⟩
  | 206, h1, h2 => cases h1; cases h2; exact ⟨mkX12_isAngry, cwX12_isAngry⟩
  | 207, h1, h2 => cases h1; cases h2; exact ⟨mkX12_doQuarrel, cwX12_doQuarrel⟩
  | 208, h1, h2 => cases h1; cases h2; exact ⟨mkX12_isTold, cwX12_isTold⟩
  | 209, h1, h2 => cases h1; cases h2; exact ⟨mkX12_isWard, cwX12_isWard⟩
  | 210, h1, h2 => cases h1; cases h2; exact ⟨mkX12_isThere, cwX12_isThere⟩
  | 211, h1, h2 => cases h1; cases h2; exact ⟨mkX12_areHabits, cwX12_areHabits⟩
  | 212, h1, h2 => cases h1; cases h2; exact ⟨mkX12_isIn, cwX12_isIn⟩
  | 213, h1, h2 => cases h1; cases h2; exact ⟨mkX12_manyIn, cwX12_manyIn⟩
  | 214, h1, h2 => cases h1; cases h2; exact ⟨mkX12_togetherIn, cwX12_togetherIn⟩
  | 215, h1, h2 => cases h1; cases h2; exact ⟨mkX12_gust, cwX12_gust⟩
  | 216, h1, h2 => cases h1; cases h2; exact ⟨mkX12_name, cwX12_name⟩
  | 217, h1, h2 => cases h1; cases h2; exact ⟨mkX12_moves, cwX12_moves⟩
  | 218, h1, h2 => cases h1; cases h2; exact ⟨mkX12_habit, cwX12_habit⟩
  | 219, h1, h2 => cases h1; cases h2; exact ⟨mkX12_ward, cwX12_ward⟩
  | 220, h1, h2 => cases h1; cases h2; exact ⟨mkX12_nurse, cwX12_nurse⟩
  | 221, h1, h2 => cases h1; cases h2; exact ⟨mkX12_needs, cwX12_needs⟩
  | 222, h1, h2 => cases h1; cases h2; exact ⟨mkX12_repeats, cwX12_repeats⟩
  | 223, h1, h2 => cases h1; cases h2; exact ⟨mkX12_timesTold, cwX12_timesTold⟩
  | 224, h1, h2 => cases h1; cases h2; exact ⟨mkX12_monthTold, cwX12_monthTold⟩
  | 225, h1, h2 => cases h1; cases h2; exact ⟨mkX12_timetable, cwX12_timetable⟩
  | 226, h1, h2 => cases h1; cases h2; exact ⟨mkX12_lessonOf, cwX12_lessonOf⟩
  | 227, h1, h2 => cases h1; cases h2; exact ⟨mkX12_draw, cwX12_draw⟩
  | 228, h1, h2 => cases h1; cases h2; exact ⟨mkX12_weakens, cwX12_weakens⟩
  | 229, h1, h2 => cases h1; cases h2; exact ⟨mkX12_isWell, cwX12_isWell⟩
  | 230, h1, h2 => cases h1; cases h2; exact ⟨mkX12_feeds, cwX12_feeds⟩
  | 231, h1, h2 => cases h1; cases h2; exact ⟨mkX12_teaches, cwX12_teaches⟩
  | 232, h1, h2 => cases h1; cases h2; exact ⟨mkX12_wardsGo, cwX12_wardsGo⟩
  | 233, h1, h2 => cases h1; cases h2; exact ⟨mkX12_breaks, cwX12_breaks⟩
  | 234, h1, h2 => cases h1; cases h2; exact ⟨mkX12_whistle, cwX12_whistle⟩
  | 235, h1, h2 => cases h1; cases h2; exact ⟨mkX12_nursesGo, cwX12_nursesGo⟩
  | 236, h1, h2 => cases h1; cases h2; exact ⟨mkX12_judges, cwX12_judges⟩
  | 237, h1, h2 => cases h1; cases h2; exact ⟨mkX12_go, cwX12_go⟩
  | 238, h1, h2 => cases h1; cases h2; exact ⟨mkX12_months, cwX12_months⟩
  | 239, h1, h2 => cases h1; cases h2; exact ⟨mkX12_laysAside, cwX12_laysAside⟩
  | 240, h1, h2 => cases h1; cases h2; exact ⟨mkX12_bringsBack, cwX12_bringsBack⟩
  | 241, h1, h2 => cases h1; cases h2; exact ⟨mkX12_tried, cwX12_tried⟩
  | 242, h1, h2 => cases h1; cases h2; exact ⟨mkX12_orLess, cwX12_orLess⟩
  | 243, h1, h2 => cases h1; cases h2; exact ⟨mkX12_gustIs, cwX12_gustIs⟩
  | 244, h1, h2 => cases h1; cases h2; exact ⟨mkX12_setIn, cwX12_setIn⟩
  | 245, h1, h2 => cases h1; cases h2; exact ⟨mkX12_brokenIn, cwX12_brokenIn⟩
  | 246, h1, h2 => cases h1; cases h2; exact ⟨mkX12_wardIs, cwX12_wardIs⟩
  | 247, h1, h2 => cases h1; cases h2; exact ⟨mkX12_nurseIs, cwX12_nurseIs⟩
  | 248, h1, h2 => cases h1; cases h2; exact ⟨mkX12_quarrel, cwX12_quarrel⟩
  | 249, h1, h2 => cases h1; cases h2; exact ⟨mkX12_toldGusts, cwX12_toldGusts⟩
  | 250, h1, h2 => cases h1; cases h2; exact ⟨mkX12_areGusts, cwX12_areGusts⟩
  | 251, h1, h2 => cases h1; cases h2; exact ⟨mkX12_takesSome, cwX12_takesSome⟩
  | 252, h1, h2 => cases h1; cases h2; exact ⟨mkX12_placeIn, cwX12_placeIn⟩
  | 253, h1, h2 => cases h1; cases h2; exact ⟨mkX12_powerOf, cwX12_powerOf⟩
  | 254, h1, h2 => cases h1; cases h2; exact ⟨mkX12_opensRow, cwX12_opensRow⟩
  | 255, h1, h2 => cases h1; cases h2; exact ⟨mkX12_keepsRow, cwX12_keepsRow⟩
  | 256, h1, h2 => cases h1; cases h2; exact ⟨mkX12_takesPlaces, cwX12_takesPlaces⟩
  | 257, h1, h2 => cases h1; cases h2; exact ⟨mkX12_isRoomFor, cwX12_isRoomFor⟩
  | 258, h1, h2 => cases h1; cases h2; exact ⟨mkX12_twosIn, cwX12_twosIn⟩
  | 259, h1, h2 => cases h1; cases h2; exact ⟨mkX12_housed, cwX12_housed⟩
  | 260, h1, h2 => cases h1; cases h2; exact ⟨mkX12_wind, cwX12_wind⟩
  | 261, h1, h2 => cases h1; cases h2; exact ⟨mkX12_canGo, cwX12_canGo⟩
  | 262, h1, h2 => cases h1; cases h2; exact ⟨mkX12_canLeave, cwX12_canLeave⟩
  | 263, h1, h2 => cases h1; cases h2; exact ⟨mkX12_laysLeaving, cwX12_laysLeaving⟩
  | 264, h1, h2 => cases h1; cases h2; exact ⟨mkX12_leaving, cwX12_leaving⟩
  | 265, h1, h2 => cases h1; cases h2; exact ⟨mkX12_letGo, cwX12_letGo⟩
  | 266, h1, h2 => cases h1; cases h2; exact ⟨mkX12_home, cwX12_home⟩
  | 267, h1, h2 => cases h1; cases h2; exact ⟨mkX12_homesFor, cwX12_homesFor⟩
  | 268, h1, h2 => cases h1; cases h2; exact ⟨mkX12_greaterPart, cwX12_greaterPart⟩
  | 269, h1, h2 => cases h1; cases h2; exact ⟨mkX12_from, cwX12_from⟩
  | 270, h1, h2 => cases h1; cases h2; exact ⟨mkX12_laysLessons, cwX12_laysLessons⟩
  | 271, h1, h2 => cases h1; cases h2; exact ⟨mkX12_taught, cwX12_taught⟩
  | 272, h1, h2 => cases h1; cases h2; exact ⟨mkX12_house, cwX12_house⟩
  | 273, h1, h2 => cases h1; cases h2; exact ⟨mkX12_isHigher, cwX12_isHigher⟩
  | 274, h1, h2 => cases h1; cases h2; exact ⟨mkX12_isLiked, cwX12_isLiked⟩
  | 275, h1, h2 => cases h1; cases h2; exact ⟨mkX12_asksNext, cwX12_asksNext⟩
  | 276, h1, h2 => cases h1; cases h2; exact ⟨mkX12_isAnywhere, cwX12_isAnywhere⟩
  | 277, h1, h2 => cases h1; cases h2; exact ⟨mkX12_laysPlaces, cwX12_laysPlaces⟩
  | 278, h1, h2 => cases h1; cases h2; exact ⟨mkX12_placed, cwX12_placed⟩
  | 279, h1, h2 => cases h1; cases h2; exact ⟨mkX12_fair, cwX12_fair⟩
  | 280, h1, h2 => cases h1; cases h2; exact ⟨mkX12_lower, cwX12_lower⟩
  | 281, h1, h2 => cases h1; cases h2; exact ⟨mkX12_higher, cwX12_higher⟩
  | 282, h1, h2 => cases h1; cases h2; exact ⟨mkX12_hourOf, cwX12_hourOf⟩
  | 283, h1, h2 => cases h1; cases h2; exact ⟨mkX12_laysAhead, cwX12_laysAhead⟩
  | 284, h1, h2 => cases h1; cases h2; exact ⟨mkX12_laysBehind, cwX12_laysBehind⟩
  | 285, h1, h2 => cases h1; cases h2; exact ⟨mkX12_escaped, cwX12_escaped⟩
  | 286, h1, h2 => cases h1; cases h2; exact ⟨mkX12_isOrder, cwX12_isOrder⟩
  | 287, h1, h2 => cases h1; cases h2; exact ⟨mkX12_toldNurses, cwX12_toldNurses⟩
  | 288, h1, h2 => cases h1; cases h2; exact ⟨mkX12_nursed, cwX12_nursed⟩
  | 289, h1, h2 => cases h1; cases h2; exact ⟨mkX12_laysRing, cwX12_laysRing⟩
  | 290, h1, h2 => cases h1; cases h2; exact ⟨mkX12_round, cwX12_round⟩
  | 291, h1, h2 => cases h1; cases h2; exact ⟨mkX12_partOf, cwX12_partOf⟩
  | 292, h1, h2 => cases h1; cases h2; exact ⟨mkX12_added, cwX12_added⟩
  | 293, h1, h2 => cases h1; cases h2; exact ⟨mkX12_seed, cwX12_seed⟩
  | 294, h1, h2 => cases h1; cases h2; exact ⟨mkX12_keep, cwX12_keep⟩
  | 295, h1, h2 => cases h1; cases h2; exact ⟨mkX12_undo, cwX12_undo⟩
  | 296, h1, h2 => cases h1; cases h2; exact ⟨mkX12_check, cwX12_check⟩
  | 297, h1, h2 => cases h1; cases h2; exact ⟨mkX12_toldOf, cwX12_toldOf⟩
  | 298, h1, h2 => cases h1; cases h2; exact ⟨mkX12_count, cwX12_count⟩
  | 299, h1, h2 => cases h1; cases h2; exact ⟨mkJ6_bitCount_0f7a4, cwJ6_bitCount_0f7a4⟩
  | 300, h1, h2 => cases h1; cases h2; exact ⟨mkJ7_fill_53178, cwJ7_fill_53178⟩
  | n + 301, h1, h2 => cases h1
theorem g_mck_base {f : Nat × Nat × Nat × Nat × Nat × Nat × Nat × Nat × Nat × Nat} {M : g_M} (h : g_mck f M = true) : plainName M.2.1.cls = true ∧ M.2.2.2.1 ≤ 45 ∧ M.2.1.cls = M.1 := by
  obtain ⟨kd, n, k1, j1, k2, j2, k3, j3, k4, j4⟩ := f
  simp only [g_mck, Bool.and_eq_true, decide_eq_true_eq] at h
  exact ⟨h.1.1, h.1.2.1, h.1.2.2.1⟩
theorem g_mck_c {f : Nat × Nat × Nat × Nat × Nat × Nat × Nat × Nat × Nat × Nat} {M : g_M} (h : g_mck f M = true) : Cond.initialized M.2.1.cls ∈ g_wk ∧ (M.2.1.cls ≠ "java/lang/invoke/MethodHandle" ∧ M.2.1.cls ≠ "java/lang/invoke/VarHandle" ∧ (parseMethodDescriptor M.2.1.desc).map (fun d => d.parameters.length) = some f.2.1) := by
  obtain ⟨kd, n, k1, j1, k2, j2, k3, j3, k4, j4⟩ := f
  simp only [g_mck, Bool.and_eq_true, decide_eq_true_eq] at h
  exact ⟨g_wkB_in h.2.2.1, h.1.2.2.2.1, h.1.2.2.2.2, h.2.1⟩
theorem g_mck_0 {f : Nat × Nat × Nat × Nat × Nat × Nat × Nat × Nat × Nat × Nat} {M : g_M} (h : g_mck f M = true) (hk : f.1 = 0) : Cond.static M.2.1 ∈ g_wk := by
  obtain ⟨kd, n, k1, j1, k2, j2, k3, j3, k4, j4⟩ := f
  dsimp only at hk
  subst hk
  simp only [g_mck, Bool.and_eq_true, decide_eq_true_eq] at h
  exact g_wkB_in h.2.2.2
theorem g_mck_1 {f : Nat × Nat × Nat × Nat × Nat × Nat × Nat × Nat × Nat × Nat} {M : g_M} (h : g_mck f M = true) (hk : f.1 = 1) : Cond.instanceMethod M.2.1 ∈ g_wk ∧ Cond.selects M.2.1.cls M.2.1 M.2.1 ∈ g_wk := by
  obtain ⟨kd, n, k1, j1, k2, j2, k3, j3, k4, j4⟩ := f
  dsimp only at hk
  subst hk
  simp only [g_mck, Bool.and_eq_true, decide_eq_true_eq] at h
  exact ⟨g_wkB_in h.2.2.2.1, g_wkB_in h.2.2.2.2⟩
theorem g_mck_2 {f : Nat × Nat × Nat × Nat × Nat × Nat × Nat × Nat × Nat × Nat} {M : g_M} (h : g_mck f M = true) (hk : f.1 = 2) : M.2.1.name = "<init>" ∧ Cond.instanceMethod M.2.1 ∈ g_wk ∧ M.2.2.2.2.1 = none := by
  obtain ⟨kd, n, k1, j1, k2, j2, k3, j3, k4, j4⟩ := f
  dsimp only at hk
  subst hk
  simp only [g_mck, Bool.and_eq_true, decide_eq_true_eq] at h
  exact ⟨h.2.2.2.2.1, g_wkB_in h.2.2.2.1, h.2.2.2.2.2⟩
theorem g_fl {oc i x y p : Nat} {q : Nat × Nat × Nat × Nat × Bool × Nat × Nat} (h1 : g_FL[p]? = some q) (h2 : q.1 = oc) (h3 : q.2.1 = i) (h4 : q.2.2.1 = x) (h5 : q.2.2.2.1 = y) : ∃ (C : String) (T : u_T) (N : Nat), vwCl[x]? = some (C, T, N) ∧ y < N ∧ (T y).1 = C ∧ ((q.2.2.2.2.1 = false ∧ Cond.fieldLink (g_cn oc) i C (T y).2.1 (T y).2.2.1 ∈ g_wk) ∨ (q.2.2.2.2.1 = true ∧ ∃ h, Cond.fieldLinkNest (g_cn oc) i C (T y).2.1 (T y).2.2.1 h ∈ g_wn)) := by
  have h6 := List.all_eq_true.mp g_FL_ok q (List.mem_of_getElem? h1)
  obtain ⟨oc', i', x', y', ne, k, j⟩ := q
  dsimp only at h2 h3 h4 h5
  subst h2 h3 h4 h5
  dsimp only [g_fck] at h6
  split at h6
  · rename_i C T N hc
    rw [Bool.and_eq_true, Bool.and_eq_true, decide_eq_true_eq, decide_eq_true_eq] at h6
    refine ⟨C, T, N, hc, h6.1, h6.2.1, ?_⟩
    cases ne
    · exact Or.inl ⟨rfl, g_wkB_in h6.2.2⟩
    · exact Or.inr ⟨rfl, _, g_wnB_in h6.2.2⟩
  · cases h6
theorem g_clk {oc i x p : Nat} {q : Nat × Nat × Nat × Bool × Nat × Nat} (h1 : g_CL[p]? = some q) (h2 : q.1 = oc) (h3 : q.2.1 = i) (h4 : q.2.2.1 = x) {M : g_M} (hM : g_ml[x]? = some M) : Cond.methodLink (g_cn oc) i M.2.1 ∈ g_wk ∨ ∃ h, Cond.methodLinkNest (g_cn oc) i M.2.1 h ∈ g_wn := by
  have h6 := List.all_eq_true.mp g_CL_ok q (List.mem_of_getElem? h1)
  obtain ⟨oc', i', x', ne, k, j⟩ := q
  dsimp only at h2 h3 h4
  subst h2 h3 h4
  dsimp only [g_cck] at h6
  rw [hM] at h6
  dsimp only at h6
  cases ne
  · exact Or.inl (g_wkB_in h6)
  · exact Or.inr ⟨_, g_wnB_in h6⟩
theorem g_kl {oc i : Nat} {z : Int} (h : g_KL.any (fun q => (q.1 == oc && q.2.1 == i) && (q.2.2.1 == z && !q.2.2.2.1)) = true) : Cond.constant (g_cn oc) i (Int32.ofInt z) ∈ g_wk := by
  obtain ⟨q, hq, h2⟩ := List.any_eq_true.mp h
  have h6 := List.all_eq_true.mp g_KL_ok q hq
  obtain ⟨oc', i', v, lg, k, j⟩ := q
  simp only [Bool.and_eq_true, beq_iff_eq, Bool.not_eq_true'] at h2
  obtain ⟨⟨rfl, rfl⟩, rfl, rfl⟩ := h2
  exact g_wkB_in h6
theorem g_kl2 {oc i : Nat} {z : Int} (h : g_KL.any (fun q => (q.1 == oc && q.2.1 == i) && (q.2.2.1 == z && q.2.2.2.1)) = true) : Cond.constantLong (g_cn oc) i (Int64.ofInt z) ∈ g_wk := by
  obtain ⟨q, hq, h2⟩ := List.any_eq_true.mp h
  have h6 := List.all_eq_true.mp g_KL_ok q hq
  obtain ⟨oc', i', v, lg, k, j⟩ := q
  simp only [Bool.and_eq_true, beq_iff_eq] at h2
  obtain ⟨⟨rfl, rfl⟩, rfl, rfl⟩ := h2
  exact g_wkB_in h6
theorem g_cL_kst {oc : Nat} {ini : Bool} {ins : Instr} {x y : Nat} {z : Int} (h : g_cL oc ini ins x y z = true) : g_kst (g_cn oc) z ins := by
  unfold g_kst
  split
  · exact g_kl h
  · exact g_kl h
  · exact g_kl2 h
  · trivial
set_option maxHeartbeats 1000000 in
theorem g_cL_lkh {oc : Nat} {ini : Bool} {mn : String} (hini : ini = true → mn = "<init>") {ins : Instr} {x y : Nat} {z : Int} (h : g_cL oc ini ins x y z = true) : g_lkh (g_cn oc) mn x y ins := by
  unfold g_lkh
  split
  · dsimp only [g_cL] at h
    split at h
    · rename_i q hq
      simp only [Bool.and_eq_true, beq_iff_eq] at h
      obtain ⟨C, T, N, h1, h2, h3, h4⟩ := g_fl hq h.1.1 h.1.2 h.2.1 h.2.2
      exact ⟨C, T, N, h1, h2, h3, h4.imp (fun a => a.2) (fun a => a.2)⟩
    · cases h
  · dsimp only [g_cL] at h
    split at h
    · rename_i q hq
      rw [Bool.and_eq_true] at h
      obtain ⟨ha, hb⟩ := h
      simp only [Bool.and_eq_true, beq_iff_eq] at ha
      obtain ⟨C, T, N, h1, h2, h3, h4⟩ := g_fl hq ha.1.1 ha.1.2 ha.2.1 ha.2.2
      refine ⟨C, T, N, h1, h2, h3, ?_⟩
      rw [h1] at hb
      dsimp only at hb
      cases hf : (T y).2.2.2
      · exact Or.inl ⟨rfl, h4.imp (fun a => a.2) (fun a => a.2)⟩
      · rw [hf] at hb
        simp only [cond_true, Bool.and_eq_true, beq_iff_eq, Bool.not_eq_true'] at hb
        obtain ⟨hb1, hb2, hb3⟩ := hb
        rcases h4 with h4 | h4
        · refine Or.inr ⟨rfl, hini hb1, ?_, h4.2⟩
          rw [h3]
          rw [← hb2]
          match x, h1 with
          | 0, h1 => cases h1; rfl
          | 1, h1 => cases h1; rfl
          | 2, h1 => cases h1; rfl
          | 3, h1 => cases h1; rfl
          | 4, h1 => cases h1; rfl
          | 5, h1 => cases h1; rfl
          | 6, h1 => cases h1; rfl
          | 7, h1 => cases h1; rfl
          | 8, h1 => cases h1; rfl
          | 9, h1 => cases h1; rfl
          | 10, h1 => cases h1; rfl
          | 11, h1 => cases h1; rfl
          | 12, h1 => cases h1; rfl
          | n + 13, h1 => simp [vwCl] at h1
        · rw [hb3] at h4; cases h4.1
    · cases h
  · dsimp only [g_cL] at h
    split at h
    · rename_i q hq
      simp only [Bool.and_eq_true, beq_iff_eq] at h
      have h6 := List.all_eq_true.mp g_NL_ok q (List.mem_of_getElem? hq)
      obtain ⟨oc', i', x', k, j, k2, j2, k3, j3⟩ := q
      dsimp only at h
      obtain ⟨⟨rfl, rfl⟩, rfl⟩ := h
      dsimp only [g_nck] at h6
      split at h6
      · rename_i C T N hc
        rw [Bool.and_eq_true, Bool.and_eq_true] at h6
        exact ⟨C, T, N, hc, g_wkB_in h6.1, g_wkB_in h6.2.1, g_wkB_in h6.2.2⟩
      · cases h6
    · cases h
  · rename_i t
    cases t <;> first | exact g_ac_int | exact g_ac_byte | exact g_ac_boolean | (simp [g_cL, g_tag] at h)
  · obtain ⟨q, hq, h2⟩ := List.any_eq_true.mp h
    have h6 := List.all_eq_true.mp g_AL_ok q hq
    obtain ⟨oc', i', k, j⟩ := q
    simp only [Bool.and_eq_true, beq_iff_eq] at h2
    obtain ⟨rfl, rfl⟩ := h2
    exact g_wkB_in h6
  · refine ⟨fun hx => ?_, fun hx => ?_⟩
    · subst hx
      have h7 : g_YL.any (fun q => q.1 == oc && q.2.1 == _) = true := h
      obtain ⟨q, hq, h2⟩ := List.any_eq_true.mp h7
      have h6 := List.all_eq_true.mp g_YL_ok q hq
      obtain ⟨oc', i', k, j⟩ := q
      simp only [Bool.and_eq_true, beq_iff_eq] at h2
      obtain ⟨rfl, rfl⟩ := h2
      exact ⟨g_wkB_in h6, g_y1, g_y2, g_y3⟩
    · have key : ∀ i, g_ZL.any (fun q => (q.1 == oc && q.2.1 == i) && q.2.2.1 == x) = true → Cond.methodLink (g_cn oc) i (g_zn x) ∈ g_wk := by
        intro i h7
        obtain ⟨q, hq, h2⟩ := List.any_eq_true.mp h7
        have h6 := List.all_eq_true.mp g_ZL_ok q hq
        obtain ⟨oc', i', x', k, j⟩ := q
        simp only [Bool.and_eq_true, beq_iff_eq] at h2
        obtain ⟨⟨rfl, rfl⟩, rfl⟩ := h2
        exact g_wkB_in h6
      refine ⟨g_z0, fun hx2 => ?_, fun hx2 => ?_, fun hx2 => ?_⟩
      · subst hx2
        exact ⟨key _ h, g_zs_max, g_zc_max⟩
      · subst hx2
        exact ⟨key _ h, g_zs_min, g_zc_min⟩
      · subst hx2
        exact ⟨key _ h, g_zs_abs, g_zc_abs⟩
  · trivial
set_option maxRecDepth 100000 in
theorem g_ml_77 : g_ml[77777]? = none ∧ g_ml[99998]? = none ∧ g_ml[99999]? = none ∧ g_ml[99997]? = none ∧ g_ml[99996]? = none ∧ g_ml[99995]? = none := by decide +kernel
set_option maxHeartbeats 1000000 in
theorem g_cL_lkc {oc : Nat} {ini : Bool} {ins : Instr} {x y : Nat} {z : Int} (h : g_cL oc ini ins x y z = true) : g_lkc g_mt (g_cn oc) x y ins := by
  unfold g_lkc
  split
  · intro M' hM'
    have hM : g_ml[x]? = some M' := (g_mt_ml hM').2
    dsimp only [g_cL] at h
    cases hx : (x == 77777) with
    | true => rw [beq_iff_eq] at hx; subst hx; rw [g_ml_77.1] at hM; cases hM
    | false =>
      rw [hx] at h
      cases hx2 : (x == 99998) with
      | true => rw [beq_iff_eq] at hx2; subst hx2; rw [g_ml_77.2.1] at hM; cases hM
      | false =>
        rw [hx2] at h
        cases hx3 : (x == 99997 || (x == 99996 || x == 99995)) with
        | true =>
          simp only [Bool.or_eq_true, beq_iff_eq] at hx3
          rcases hx3 with hx3 | hx3 | hx3
          · subst hx3; rw [g_ml_77.2.2.2.1] at hM; cases hM
          · subst hx3; rw [g_ml_77.2.2.2.2.1] at hM; cases hM
          · subst hx3; rw [g_ml_77.2.2.2.2.2] at hM; cases hM
        | false =>
          rw [hx3] at h
          dsimp only [cond_false] at h
          split at h
          · rename_i q hq
            rw [Bool.and_eq_true] at h
            obtain ⟨ha, hb⟩ := h
            simp only [Bool.and_eq_true, beq_iff_eq] at ha
            split at hb
            · rename_i f hf
              simp only [Bool.and_eq_true, beq_iff_eq] at hb
              have hm := (g_MF_ok hf hM (by rw [hb.1]; decide)).1
              obtain ⟨c1, c2⟩ := g_mck_c hm
              rw [hb.2] at c2
              exact ⟨⟨g_clk hq ha.1.1 ha.1.2 ha.2 hM, c1, c2⟩, g_mck_0 hm hb.1⟩
            · cases hb
          · cases h
  · intro M' hM'
    have hM : g_ml[x]? = some M' := (g_mt_ml hM').2
    dsimp only [g_cL] at h
    cases hx : (x == 77777) with
    | true => rw [beq_iff_eq] at hx; subst hx; rw [g_ml_77.1] at hM; cases hM
    | false =>
      rw [hx] at h
      dsimp only [cond_false] at h
      split at h
      · rename_i q hq
        rw [Bool.and_eq_true] at h
        obtain ⟨ha, hb⟩ := h
        simp only [Bool.and_eq_true, beq_iff_eq] at ha
        split at hb
        · rename_i f hf
          simp only [Bool.and_eq_true, beq_iff_eq] at hb
          have hm := (g_MF_ok hf hM (by rw [hb.1]; decide)).1
          obtain ⟨c1, c2⟩ := g_mck_c hm
          rw [hb.2] at c2
          exact ⟨⟨g_clk hq ha.1.1 ha.1.2 ha.2 hM, c1, c2⟩, g_mck_1 hm hb.1⟩
        · cases hb
      · cases h
  · refine ⟨fun hx => ?_, fun M' hM' => ?_⟩
    · subst hx
      have h7 : g_OL.any (fun q => q.1 == oc && q.2.1 == _) = true := h
      obtain ⟨q, hq, h2⟩ := List.any_eq_true.mp h7
      have h6 := List.all_eq_true.mp g_OL_ok q hq
      obtain ⟨oc', i', k, j⟩ := q
      simp only [Bool.and_eq_true, beq_iff_eq] at h2
      obtain ⟨rfl, rfl⟩ := h2
      exact ⟨g_wkB_in h6, g_o1, g_o2⟩
    · have hM : g_ml[x]? = some M' := (g_mt_ml hM').2
      dsimp only [g_cL] at h
      cases hx2 : (x == 99999) with
      | true => rw [beq_iff_eq] at hx2; subst hx2; rw [g_ml_77.2.2.1] at hM; cases hM
      | false =>
        rw [hx2] at h
        dsimp only [cond_false] at h
        split at h
        · rename_i q hq
          rw [Bool.and_eq_true] at h
          obtain ⟨ha, hb⟩ := h
          simp only [Bool.and_eq_true, beq_iff_eq] at ha
          split at hb
          · rename_i f hf
            simp only [Bool.and_eq_true, beq_iff_eq] at hb
            have hm := (g_MF_ok hf hM (by rw [hb.1]; decide)).1
            obtain ⟨c1, c2⟩ := g_mck_c hm
            rw [hb.2] at c2
            exact ⟨⟨g_clk hq ha.1.1 ha.1.2 ha.2 hM, c1, c2⟩, g_mck_2 hm hb.1⟩
          · cases hb
        · cases h
  · trivial
theorem g_tok_of {oc : Nat} {ini : Bool} {y : MethodName} {c : ByteArray} {mx : Nat} {rt : Option FieldType} {tt : List (Nat × List (Nat × g_En))} (hini : ini = true → y.name = "<init>") (h : tt.all (fun r => r.2.all (g_cE oc ini c)) = true) : g_Tok g_mt (g_cn oc, y, c, mx, rt, g_look2 tt) := by
  intro pc en hen
  obtain ⟨q, hq, hin⟩ := g_look2_in tt pc en hen
  have h1 := List.all_eq_true.mp (List.all_eq_true.mp h q hq) (pc, en) hin
  unfold g_cE at h1
  simp only [Bool.and_eq_true, Bool.or_eq_true, decide_eq_true_eq, beq_iff_eq] at h1
  obtain ⟨a1, a2, a3, a4⟩ := h1
  refine ⟨a1, fun hs => ?_, g_cL_kst a4, fun off ho => ?_, g_cL_lkh hini a4, g_cL_lkc a4⟩
  · rcases a2 with a2 | a2
    · rw [hs] at a2; cases a2
    · exact a2
  · rw [ho] at a3
    simpa using a3
theorem g_mok_of {x : Nat} {M : g_M} {f : Nat × Nat × Nat × Nat × Nat × Nat × Nat × Nat × Nat × Nat} (h1 : g_MF[x]? = some f) (h2 : g_ml[x]? = some M) (h3 : f.1 ≠ 9) (ht : g_Tok g_mt M) : g_Mok g_mt M := by
  obtain ⟨b1, b2, b4⟩ := g_mck_base (g_MF_ok h1 h2 h3).1
  exact ⟨b1, b2, (g_MF_ok h1 h2 h3).2, b4, ht⟩
