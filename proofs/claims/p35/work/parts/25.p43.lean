/-! the law of this part -/
noncomputable abbrev m_L_law : g_M := (g_cn 13, x, code, 4, some .boolean, g_look2 ttL_law)
noncomputable abbrev m_X11_gust : g_M := (g_cn 11, yX11_gust, cX11_gust, 7, (some .boolean), g_look2 ttX11_gust)
set_option maxRecDepth 20000 in
theorem mt_X11_gust : g_mt 111 = some m_X11_gust := rfl
noncomputable abbrev m_X12_gust : g_M := (g_cn 12, yX12_gust, cX12_gust, 6, (some .boolean), g_look2 ttX12_gust)
set_option maxRecDepth 20000 in
theorem mt_X12_gust : g_mt 215 = some m_X12_gust := rfl
noncomputable abbrev m_X11_name : g_M := (g_cn 11, yX11_name, cX11_name, 3, (some .boolean), g_look2 ttX11_name)
set_option maxRecDepth 20000 in
theorem mt_X11_name : g_mt 112 = some m_X11_name := rfl
noncomputable abbrev m_X12_name : g_M := (g_cn 12, yX12_name, cX12_name, 3, (some .boolean), g_look2 ttX12_name)
set_option maxRecDepth 20000 in
theorem mt_X12_name : g_mt 216 = some m_X12_name := rfl
noncomputable abbrev m_X11_moves : g_M := (g_cn 11, yX11_moves, cX11_moves, 4, (some .boolean), g_look2 ttX11_moves)
set_option maxRecDepth 20000 in
theorem mt_X11_moves : g_mt 113 = some m_X11_moves := rfl
noncomputable abbrev m_X12_moves : g_M := (g_cn 12, yX12_moves, cX12_moves, 3, (some .boolean), g_look2 ttX12_moves)
set_option maxRecDepth 20000 in
theorem mt_X12_moves : g_mt 217 = some m_X12_moves := rfl
noncomputable abbrev m_X11_habit : g_M := (g_cn 11, yX11_habit, cX11_habit, 5, (some .boolean), g_look2 ttX11_habit)
set_option maxRecDepth 20000 in
theorem mt_X11_habit : g_mt 114 = some m_X11_habit := rfl
noncomputable abbrev m_X12_habit : g_M := (g_cn 12, yX12_habit, cX12_habit, 4, (some .boolean), g_look2 ttX12_habit)
set_option maxRecDepth 20000 in
theorem mt_X12_habit : g_mt 218 = some m_X12_habit := rfl
noncomputable abbrev m_X11_ward : g_M := (g_cn 11, yX11_ward, cX11_ward, 7, (some .boolean), g_look2 ttX11_ward)
set_option maxRecDepth 20000 in
theorem mt_X11_ward : g_mt 115 = some m_X11_ward := rfl
noncomputable abbrev m_X12_ward : g_M := (g_cn 12, yX12_ward, cX12_ward, 5, (some .boolean), g_look2 ttX12_ward)
set_option maxRecDepth 20000 in
theorem mt_X12_ward : g_mt 219 = some m_X12_ward := rfl
noncomputable abbrev m_X11_nurse : g_M := (g_cn 11, yX11_nurse, cX11_nurse, 3, (some .boolean), g_look2 ttX11_nurse)
set_option maxRecDepth 20000 in
theorem mt_X11_nurse : g_mt 116 = some m_X11_nurse := rfl
noncomputable abbrev m_X12_nurse : g_M := (g_cn 12, yX12_nurse, cX12_nurse, 3, (some .boolean), g_look2 ttX12_nurse)
set_option maxRecDepth 20000 in
theorem mt_X12_nurse : g_mt 220 = some m_X12_nurse := rfl
noncomputable abbrev m_X11_needs : g_M := (g_cn 11, yX11_needs, cX11_needs, 3, (some .boolean), g_look2 ttX11_needs)
set_option maxRecDepth 20000 in
theorem mt_X11_needs : g_mt 117 = some m_X11_needs := rfl
noncomputable abbrev m_X12_needs : g_M := (g_cn 12, yX12_needs, cX12_needs, 3, (some .boolean), g_look2 ttX12_needs)
set_option maxRecDepth 20000 in
theorem mt_X12_needs : g_mt 221 = some m_X12_needs := rfl
noncomputable abbrev m_X11_feed : g_M := (g_cn 11, yX11_feed, cX11_feed, 6, (some .int), g_look2 ttX11_feed)
set_option maxRecDepth 20000 in
theorem mt_X11_feed : g_mt 122 = some m_X11_feed := rfl
noncomputable abbrev m_X12_feed : g_M := (g_cn 12, yX12_feed, cX12_feed, 6, (some .int), g_look2 ttX12_feed)
set_option maxRecDepth 20000 in
theorem mt_X12_feed : g_mt 165 = some m_X12_feed := rfl
noncomputable abbrev m_X11_law : g_M := (g_cn 11, yX11_law, cX11_law, 3, (some .int), g_look2 ttX11_law)
set_option maxRecDepth 20000 in
theorem mt_X11_law : g_mt 123 = some m_X11_law := rfl
noncomputable abbrev m_X11_rules : g_M := (g_cn 11, yX11_rules, cX11_rules, 3, (some .int), g_look2 ttX11_rules)
set_option maxRecDepth 20000 in
theorem mt_X11_rules : g_mt 124 = some m_X11_rules := rfl
noncomputable abbrev m_X11_timetable : g_M := (g_cn 11, yX11_timetable, cX11_timetable, 5, (some .int), g_look2 ttX11_timetable)
set_option maxRecDepth 20000 in
theorem mt_X11_timetable : g_mt 125 = some m_X11_timetable := rfl
noncomputable abbrev m_X11_months : g_M := (g_cn 11, yX11_months, cX11_months, 2, (some .int), g_look2 ttX11_months)
set_option maxRecDepth 20000 in
theorem mt_X11_months : g_mt 126 = some m_X11_months := rfl
noncomputable abbrev m_X12_months : g_M := (g_cn 12, yX12_months, cX12_months, 2, (some .int), g_look2 ttX12_months)
set_option maxRecDepth 20000 in
theorem mt_X12_months : g_mt 238 = some m_X12_months := rfl
noncomputable abbrev m_X11_tried : g_M := (g_cn 11, yX11_tried, cX11_tried, 3, (some .int), g_look2 ttX11_tried)
set_option maxRecDepth 20000 in
theorem mt_X11_tried : g_mt 127 = some m_X11_tried := rfl
noncomputable abbrev m_X12_tried : g_M := (g_cn 12, yX12_tried, cX12_tried, 4, (some .int), g_look2 ttX12_tried)
set_option maxRecDepth 20000 in
theorem mt_X12_tried : g_mt 241 = some m_X12_tried := rfl
noncomputable abbrev m_X11_gustIs : g_M := (g_cn 11, yX11_gustIs, cX11_gustIs, 3, (some .int), g_look2 ttX11_gustIs)
set_option maxRecDepth 20000 in
theorem mt_X11_gustIs : g_mt 128 = some m_X11_gustIs := rfl
noncomputable abbrev m_X12_gustIs : g_M := (g_cn 12, yX12_gustIs, cX12_gustIs, 3, (some .int), g_look2 ttX12_gustIs)
set_option maxRecDepth 20000 in
theorem mt_X12_gustIs : g_mt 243 = some m_X12_gustIs := rfl
noncomputable abbrev m_X11_wardIs : g_M := (g_cn 11, yX11_wardIs, cX11_wardIs, 4, (some .int), g_look2 ttX11_wardIs)
set_option maxRecDepth 20000 in
theorem mt_X11_wardIs : g_mt 129 = some m_X11_wardIs := rfl
noncomputable abbrev m_X12_wardIs : g_M := (g_cn 12, yX12_wardIs, cX12_wardIs, 3, (some .int), g_look2 ttX12_wardIs)
set_option maxRecDepth 20000 in
theorem mt_X12_wardIs : g_mt 246 = some m_X12_wardIs := rfl
noncomputable abbrev m_X11_nurseIs : g_M := (g_cn 11, yX11_nurseIs, cX11_nurseIs, 3, (some .int), g_look2 ttX11_nurseIs)
set_option maxRecDepth 20000 in
theorem mt_X11_nurseIs : g_mt 130 = some m_X11_nurseIs := rfl
noncomputable abbrev m_X12_nurseIs : g_M := (g_cn 12, yX12_nurseIs, cX12_nurseIs, 3, (some .int), g_look2 ttX12_nurseIs)
set_option maxRecDepth 20000 in
theorem mt_X12_nurseIs : g_mt 247 = some m_X12_nurseIs := rfl
noncomputable abbrev m_X11_quarrel : g_M := (g_cn 11, yX11_quarrel, cX11_quarrel, 3, (some .int), g_look2 ttX11_quarrel)
set_option maxRecDepth 20000 in
theorem mt_X11_quarrel : g_mt 131 = some m_X11_quarrel := rfl
noncomputable abbrev m_X12_quarrel : g_M := (g_cn 12, yX12_quarrel, cX12_quarrel, 3, (some .int), g_look2 ttX12_quarrel)
set_option maxRecDepth 20000 in
theorem mt_X12_quarrel : g_mt 248 = some m_X12_quarrel := rfl
noncomputable abbrev m_X11_housed : g_M := (g_cn 11, yX11_housed, cX11_housed, 6, (some .int), g_look2 ttX11_housed)
set_option maxRecDepth 20000 in
theorem mt_X11_housed : g_mt 134 = some m_X11_housed := rfl
noncomputable abbrev m_X12_housed : g_M := (g_cn 12, yX12_housed, cX12_housed, 9, (some .int), g_look2 ttX12_housed)
set_option maxRecDepth 20000 in
theorem mt_X12_housed : g_mt 259 = some m_X12_housed := rfl
noncomputable abbrev m_X11_wind : g_M := (g_cn 11, yX11_wind, cX11_wind, 4, (some .boolean), g_look2 ttX11_wind)
set_option maxRecDepth 20000 in
theorem mt_X11_wind : g_mt 118 = some m_X11_wind := rfl
noncomputable abbrev m_X12_wind : g_M := (g_cn 12, yX12_wind, cX12_wind, 4, (some .boolean), g_look2 ttX12_wind)
set_option maxRecDepth 20000 in
theorem mt_X12_wind : g_mt 260 = some m_X12_wind := rfl
noncomputable abbrev m_X11_leaving : g_M := (g_cn 11, yX11_leaving, cX11_leaving, 3, (some .int), g_look2 ttX11_leaving)
set_option maxRecDepth 20000 in
theorem mt_X11_leaving : g_mt 135 = some m_X11_leaving := rfl
noncomputable abbrev m_X12_leaving : g_M := (g_cn 12, yX12_leaving, cX12_leaving, 3, (some .int), g_look2 ttX12_leaving)
set_option maxRecDepth 20000 in
theorem mt_X12_leaving : g_mt 264 = some m_X12_leaving := rfl
noncomputable abbrev m_X11_letGo : g_M := (g_cn 11, yX11_letGo, cX11_letGo, 4, (some .int), g_look2 ttX11_letGo)
set_option maxRecDepth 20000 in
theorem mt_X11_letGo : g_mt 136 = some m_X11_letGo := rfl
noncomputable abbrev m_X12_letGo : g_M := (g_cn 12, yX12_letGo, cX12_letGo, 5, (some .int), g_look2 ttX12_letGo)
set_option maxRecDepth 20000 in
theorem mt_X12_letGo : g_mt 265 = some m_X12_letGo := rfl
noncomputable abbrev m_X11_home : g_M := (g_cn 11, yX11_home, cX11_home, 3, (some .boolean), g_look2 ttX11_home)
set_option maxRecDepth 20000 in
theorem mt_X11_home : g_mt 119 = some m_X11_home := rfl
noncomputable abbrev m_X12_home : g_M := (g_cn 12, yX12_home, cX12_home, 3, (some .boolean), g_look2 ttX12_home)
set_option maxRecDepth 20000 in
theorem mt_X12_home : g_mt 266 = some m_X12_home := rfl
noncomputable abbrev m_X11_from : g_M := (g_cn 11, yX11_from, cX11_from, 5, (some .int), g_look2 ttX11_from)
set_option maxRecDepth 20000 in
theorem mt_X11_from : g_mt 137 = some m_X11_from := rfl
noncomputable abbrev m_X12_from : g_M := (g_cn 12, yX12_from, cX12_from, 8, (some .int), g_look2 ttX12_from)
set_option maxRecDepth 20000 in
theorem mt_X12_from : g_mt 269 = some m_X12_from := rfl
noncomputable abbrev m_X11_taught : g_M := (g_cn 11, yX11_taught, cX11_taught, 5, (some .int), g_look2 ttX11_taught)
set_option maxRecDepth 20000 in
theorem mt_X11_taught : g_mt 138 = some m_X11_taught := rfl
noncomputable abbrev m_X12_taught : g_M := (g_cn 12, yX12_taught, cX12_taught, 4, (some .int), g_look2 ttX12_taught)
set_option maxRecDepth 20000 in
theorem mt_X12_taught : g_mt 271 = some m_X12_taught := rfl
noncomputable abbrev m_X11_house : g_M := (g_cn 11, yX11_house, cX11_house, 4, (some .boolean), g_look2 ttX11_house)
set_option maxRecDepth 20000 in
theorem mt_X11_house : g_mt 120 = some m_X11_house := rfl
noncomputable abbrev m_X12_house : g_M := (g_cn 12, yX12_house, cX12_house, 4, (some .boolean), g_look2 ttX12_house)
set_option maxRecDepth 20000 in
theorem mt_X12_house : g_mt 272 = some m_X12_house := rfl
noncomputable abbrev m_X11_placed : g_M := (g_cn 11, yX11_placed, cX11_placed, 3, (some .int), g_look2 ttX11_placed)
set_option maxRecDepth 20000 in
theorem mt_X11_placed : g_mt 139 = some m_X11_placed := rfl
noncomputable abbrev m_X12_placed : g_M := (g_cn 12, yX12_placed, cX12_placed, 4, (some .int), g_look2 ttX12_placed)
set_option maxRecDepth 20000 in
theorem mt_X12_placed : g_mt 278 = some m_X12_placed := rfl
noncomputable abbrev m_X11_fair : g_M := (g_cn 11, yX11_fair, cX11_fair, 3, (some .int), g_look2 ttX11_fair)
set_option maxRecDepth 20000 in
theorem mt_X11_fair : g_mt 140 = some m_X11_fair := rfl
noncomputable abbrev m_X11_escaped : g_M := (g_cn 11, yX11_escaped, cX11_escaped, 7, (some .int), g_look2 ttX11_escaped)
set_option maxRecDepth 20000 in
theorem mt_X11_escaped : g_mt 141 = some m_X11_escaped := rfl
noncomputable abbrev m_X12_escaped : g_M := (g_cn 12, yX12_escaped, cX12_escaped, 9, (some .int), g_look2 ttX12_escaped)
set_option maxRecDepth 20000 in
theorem mt_X12_escaped : g_mt 285 = some m_X12_escaped := rfl
noncomputable abbrev m_X11_nursed : g_M := (g_cn 11, yX11_nursed, cX11_nursed, 5, (some .int), g_look2 ttX11_nursed)
set_option maxRecDepth 20000 in
theorem mt_X11_nursed : g_mt 142 = some m_X11_nursed := rfl
noncomputable abbrev m_X11_round : g_M := (g_cn 11, yX11_round, cX11_round, 4, (some .int), g_look2 ttX11_round)
set_option maxRecDepth 20000 in
theorem mt_X11_round : g_mt 143 = some m_X11_round := rfl
noncomputable abbrev m_X11_added : g_M := (g_cn 11, yX11_added, cX11_added, 6, (some .int), g_look2 ttX11_added)
set_option maxRecDepth 20000 in
theorem mt_X11_added : g_mt 133 = some m_X11_added := rfl
noncomputable abbrev m_X12_added : g_M := (g_cn 12, yX12_added, cX12_added, 5, (some .int), g_look2 ttX12_added)
set_option maxRecDepth 20000 in
theorem mt_X12_added : g_mt 292 = some m_X12_added := rfl
noncomputable abbrev m_X11_seed : g_M := (g_cn 11, yX11_seed, cX11_seed, 2, (some .boolean), g_look2 ttX11_seed)
set_option maxRecDepth 20000 in
theorem mt_X11_seed : g_mt 121 = some m_X11_seed := rfl
noncomputable abbrev m_X12_seed : g_M := (g_cn 12, yX12_seed, cX12_seed, 2, (some .boolean), g_look2 ttX12_seed)
set_option maxRecDepth 20000 in
theorem mt_X12_seed : g_mt 293 = some m_X12_seed := rfl
noncomputable abbrev m_X11_keep : g_M := (g_cn 11, yX11_keep, cX11_keep, 1, (some .int), g_look2 ttX11_keep)
set_option maxRecDepth 20000 in
theorem mt_X11_keep : g_mt 144 = some m_X11_keep := rfl
noncomputable abbrev m_X12_keep : g_M := (g_cn 12, yX12_keep, cX12_keep, 1, (some .int), g_look2 ttX12_keep)
set_option maxRecDepth 20000 in
theorem mt_X12_keep : g_mt 294 = some m_X12_keep := rfl
noncomputable abbrev m_X11_undo : g_M := (g_cn 11, yX11_undo, cX11_undo, 3, (some .boolean), g_look2 ttX11_undo)
set_option maxRecDepth 20000 in
theorem mt_X11_undo : g_mt 145 = some m_X11_undo := rfl
noncomputable abbrev m_X12_undo : g_M := (g_cn 12, yX12_undo, cX12_undo, 1, (some .boolean), g_look2 ttX12_undo)
set_option maxRecDepth 20000 in
theorem mt_X12_undo : g_mt 295 = some m_X12_undo := rfl
noncomputable abbrev m_X11_check : g_M := (g_cn 11, yX11_check, cX11_check, 5, (some .int), g_look2 ttX11_check)
set_option maxRecDepth 20000 in
theorem mt_X11_check : g_mt 146 = some m_X11_check := rfl
noncomputable abbrev m_X12_check : g_M := (g_cn 12, yX12_check, cX12_check, 3, (some .int), g_look2 ttX12_check)
set_option maxRecDepth 20000 in
theorem mt_X12_check : g_mt 296 = some m_X12_check := rfl
noncomputable abbrev m_X11_count : g_M := (g_cn 11, yX11_count, cX11_count, 2, (some .int), g_look2 ttX11_count)
set_option maxRecDepth 20000 in
theorem mt_X11_count : g_mt 132 = some m_X11_count := rfl
noncomputable abbrev m_X12_count : g_M := (g_cn 12, yX12_count, cX12_count, 2, (some .int), g_look2 ttX12_count)
set_option maxRecDepth 20000 in
theorem mt_X12_count : g_mt 298 = some m_X12_count := rfl
noncomputable abbrev m_X7_copy : g_M := (g_cn 7, yX7_copy, cX7_copy, 2, none, g_look2 ttX7_copy)
set_option maxRecDepth 20000 in
theorem mt_X7_copy : g_mt 93 = some m_X7_copy := rfl
noncomputable abbrev m_X12_bringsBack : g_M := (g_cn 12, yX12_bringsBack, cX12_bringsBack, 4, none, g_look2 ttX12_bringsBack)
set_option maxRecDepth 20000 in
theorem mt_X12_bringsBack : g_mt 240 = some m_X12_bringsBack := rfl
noncomputable abbrev m_X12_laysAside : g_M := (g_cn 12, yX12_laysAside, cX12_laysAside, 4, none, g_look2 ttX12_laysAside)
set_option maxRecDepth 20000 in
theorem mt_X12_laysAside : g_mt 239 = some m_X12_laysAside := rfl
noncomputable def v_chkp (ty : Nat → Option v_Ct) (frz : Nat → Nat → Nat → Bool) (hd : Nat → Nat → Option v_Hp) (sp : v_Hk) (rw : Nat → List v_Rw) (fuel x pc : Nat) (w : v_Rw) : Bool := match g_mt x with
  | none => false
  | some M => v_run (ty, w.2.2.2, frz, hd, v_hkr sp rw w.1 w.2.2.2) fuel [] w.1 x M pc (q_args 0 (v_a0 w.2.1 0)) [] (v_e0 w.2.1, [], []) (v_kr w.2.2.1)
theorem v_chkp_ok {L : Nat} {xs : Nat → Int32} {ty : Nat → Option v_Ct} {Op : v_Sf → Prop} {frz : Nat → Nat → Nat → Bool} {hd : Nat → Nat → Option v_Hp} {sp : v_Hk} {rw : Nat → List v_Rw} {fuel x pc : Nat} {w : v_Rw} (hf : (∀ S S' : v_Sf, (∀ a j, frz a j j = true → S' a j = S a j) → Op S → Op S') ∧ (∀ a lo hi j, frz a lo hi = false → lo ≤ j → j ≤ hi → frz a j j = false) ∧ (∀ a t, ty a = some t → a < v_N)) (hsp : ∀ S0 R0 (d' x : Nat) (as : List q_V) (A : v_A) (k : v_K), sp d' x as A k = some true → ∀ (M' : g_M) (ρ : List Int) (ac : List Value) (S : v_Sf) (R : v_Rf) (Q : Option Value → v_Sf → v_Rf → Prop), g_mt x = some M' → q_al2 (q_rv ρ) as ac → v_ra (L, xs, (ty, w.2.2.2, frz, hd, v_hkr sp rw w.1 w.2.2.2), Op, S0, R0) ρ A S R → v_KOk (L, xs, (ty, w.2.2.2, frz, hd, v_hkr sp rw w.1 w.2.2.2), Op, S0, R0) ρ k Q → v_Tm (L, xs, (ty, w.2.2.2, frz, hd, v_hkr sp rw w.1 w.2.2.2), Op, S0, R0) d' M' 0 (lv_args 0 ac) [] S R Q) (hm : ∀ x, ∀ w' ∈ rw x, w'.1 < w.1 → v_Met L xs ty Op x w') (h : v_chkp ty frz hd sp rw fuel x pc w = true) : ∀ M, g_mt x = some M → ∀ (ac : List Value) (S : v_Sf) (R : v_Rf), q_al2 v_ac1 w.2.1 ac → v_Tb ty S R → Op S → ∃ n r S' R', (∀ e, g_run g_mt L xs (n + e) w.1 M pc (lv_args 0 ac) [] (v_mk ty S R) = some (r, v_mk ty S' R')) ∧ v_Tb ty S' R' ∧ Op S' ∧ v_rk1 w.2.2.1 r ∧ v_Fr w.2.2.2 S R S' R' := by
  intro M hM ac S R ha hT hO
  unfold v_chkp at h
  rw [hM] at h
  dsimp only at h
  obtain ⟨gv, g1, g2, g3⟩ := v_a0_ok ha
  have g3 : q_al2 (q_rv gv) (v_a0 w.2.1 0) ac := g3 []
  have r3 : v_ra (L, xs, (ty, w.2.2.2, frz, hd, v_hkr sp rw w.1 w.2.2.2), Op, S, R) gv (v_e0 w.2.1, [], []) S R := by
    refine ⟨⟨g1, fun k e hk => ?_⟩, fun q hq => (by cases hq), fun q hq => (by cases hq), hT, hO, fun a j _ => ⟨rfl, rfl⟩⟩
    obtain ⟨x, k1, k2, k3, k4⟩ := g2 k e hk
    exact ⟨x, k1, k2, k3, Or.inl k4⟩
  have hX : v_XOk (L, xs, (ty, w.2.2.2, frz, hd, v_hkr sp rw w.1 w.2.2.2), Op, S, R) := hf
  have hH : v_HkOk (L, xs, (ty, w.2.2.2, frz, hd, v_hkr sp rw w.1 w.2.2.2), Op, S, R) := v_hkr_ok rfl (hsp S R) hm
  have hK : v_KOk (L, xs, (ty, w.2.2.2, frz, hd, v_hkr sp rw w.1 w.2.2.2), Op, S, R) gv (v_kr w.2.2.1) (fun r S' R' => v_Tb ty S' R' ∧ Op S' ∧ v_rk1 w.2.2.1 r ∧ v_Fr w.2.2.2 S R S' R') := by
    intro ρ' v A' r S' R' px hk ho ra
    refine ⟨ra.2.2.2.1, ra.2.2.2.2.1, ?_, ra.2.2.2.2.2⟩
    unfold v_kr at hk
    unfold v_rk1
    split at hk
    · rename_i hb
      rw [hb]
      cases r with
      | none => rfl
      | some _ => exact ho.elim
    · rename_i b a hb
      rw [hb]
      cases r with
      | none => exact ho.elim
      | some r =>
        obtain ⟨u, rfl, hu⟩ := ho
        have := v_in_ok hk (q_iv_ok ra.1 hu)
        exact ⟨u, rfl, this.1, this.2⟩
    · cases hk
  exact v_sound hX hH fuel [] w.1 x M pc _ [] _ _ h gv (lv_args 0 ac) [] S R (v_args_ok g3 0) trivial r3 _ hK (fun o ho => by cases ho)
def rb_undo : v_Rw := (2, [.inr (.inl 1)], some (1, 1), [(1, 0, 0), (1, 7, 7), (1, 11, 14), (2, 0, 12), (3, 0, 12), (4, 0, 12), (5, 0, 12), (6, 0, 12), (7, 0, 12), (8, 0, 5), (9, 0, 5), (10, 0, 6)])
set_option maxRecDepth 100000 in
theorem cb_undo : v_chkp v_ty v_frz (v_hl [(145, 22, ([(0, none), (1, some (0, 6))], 1, 0, true))]) (v_sp v_rw rb_undo.1 rb_undo.2.2.2) v_rw 3000 145 9 rb_undo = true := by decide +kernel
def rb_keep : v_Rw := (2, [.inr (.inl 1)], some (0, 63), [])
set_option maxRecDepth 100000 in
theorem cb_keep : v_chkp v_ty v_frz (v_hl []) (v_sp v_rw rb_keep.1 rb_keep.2.2.2) v_rw 3000 144 16 rb_keep = true := by decide +kernel
section HX
variable {L : Nat} {xs : Nat → Int32} {S : v_Sf} {R : v_Rf} {Q : Option Value → v_Sf → v_Rf → Prop}
theorem a_X11_undo (hT : v_Tb v_ty S R) (hO : v_Op S) (hq : ∀ S' R', v_Tb v_ty S' R' → v_Op S' → S' 0 14 = S 0 14 → S' 99 92 = S 99 92 → Q (some (.int (if S 0 14 = 0 then (0 : Int32) else 1))) S' R') : w_T L xs 59 m_X11_undo 0 (lv_args 0 [.ref 1]) [] S R Q := by
  refine w_st rfl (fun _ => rfl) ?_
  show w_T L xs 59 m_X11_undo 1 [(0, .ref 1)] [.ref 1] S R Q
  refine w_get rfl v_tyC rfl ?_
  show w_T L xs 59 m_X11_undo 4 [(0, .ref 1)] [.int (S 0 14)] S R Q
  refine w_br (P := ¬ (S 0 14) = 0) rfl (fun _ => rfl) (fun h4 => ?_) (fun h4 => ?_)
  · rw [if_neg h4] at hq
    obtain ⟨n, r, S1, R1, a1, a2, a3, a4, a5⟩ := v_chkp_ok (L := L) (xs := xs) v_fz_ok (fun S0 R0 => v_sp_ok (fun x w hw h => v_met _ x w hw h)) (fun x w hw h => v_met _ x w hw h) cb_undo m_X11_undo mt_X11_undo [.ref 1] S R ⟨rfl, trivial⟩ hT hO
    obtain ⟨u, rfl, u1, u2⟩ := a4
    have e : u = 1 := by
      have e1 := q_of u
      have u1 : (1 : Int) ≤ u.toInt := u1
      have u2 : u.toInt ≤ (1 : Int) := u2
      rw [← e1, show u.toInt = 1 by omega]
      rfl
    subst e
    exact ⟨n, _, S1, R1, fun e => g_run_d _ _ _ _ _ _ _ _ _ _ _ (Nat.le_of_ble_eq_true rfl) (a1 e), hq S1 R1 a2 a3 (a5 0 14 (by decide +kernel)).1 (a5 99 92 (by decide +kernel)).1⟩
  · rw [if_pos (Decidable.of_not_not h4)] at hq
    refine w_st rfl (fun _ => rfl) ?_
    show w_T L xs 59 m_X11_undo 8 [(0, .ref 1)] [.int (Int32.ofInt 0)] S R Q
    refine w_ret rfl (by rfl) ?_
    exact hq S R hT hO rfl rfl
theorem a_X12_undo (hT : v_Tb v_ty S R) (hO : v_Op S) (hq : ∀ S' R', v_Tb v_ty S' R' → v_Op S' → S' 0 14 = S 0 14 → S' 99 92 = S 99 92 → Q (some (.int (if S 99 92 = 0 then (0 : Int32) else 1))) S' R') : w_T L xs 59 m_X12_undo 0 (lv_args 0 [.ref 100]) [] S R Q := by
  refine w_st rfl (fun _ => rfl) ?_
  show w_T L xs (58 + 1) m_X12_undo 1 [(0, .ref 100)] [.ref 100] S R Q
  refine w_get rfl v_tyM rfl ?_
  show w_T L xs (58 + 1) m_X12_undo 4 [(0, .ref 100)] [.int (S 99 92)] S R Q
  refine w_br (P := ¬ (S 99 92) = 0) rfl (fun _ => rfl) (fun h4 => ?_) (fun h4 => ?_)
  · rw [if_neg h4] at hq
    refine w_st rfl (fun _ => rfl) ?_
    refine w_st rfl (fun _ => rfl) ?_
    show w_T L xs (58 + 1) m_X12_undo 11 [(0, .ref 100)] [.int (Int32.ofInt 1), .ref 100] S R Q
    refine w_cv rfl (by decide) mt_X12_bringsBack v_tyM rfl rfl rfl (Nat.le_of_ble_eq_true rfl) (Nat.le_of_ble_eq_true rfl) (Nat.le_of_ble_eq_true rfl) ?_
    show w_T L xs _ m_X12_bringsBack 0 (lv_args 0 [.ref 100, .int (Int32.ofInt 1)]) [] S R _
    refine w_met (v_met 60 240 rw_214 (List.mem_of_getElem? (i := 0) rfl) (Nat.le_of_ble_eq_true rfl)) (Nat.le_of_ble_eq_true rfl) mt_X12_bringsBack ⟨rfl, ⟨_, rfl, by decide, by decide⟩, trivial⟩ hT hO (fun r S1 R1 hT1 hO1 hr hF1 => ?_)
    have hr : r = none := hr
    subst hr
    refine w_st rfl (fun _ => rfl) ?_
    show w_T L xs (58 + 1) m_X12_undo 15 [(0, .ref 100)] [.int (Int32.ofInt 1)] S1 R1 Q
    refine w_ret rfl (by rfl) ?_
    exact hq S1 R1 hT1 hO1 (hF1 0 14 (by decide +kernel)).1 (hF1 99 92 (by decide +kernel)).1
  · rw [if_pos (Decidable.of_not_not h4)] at hq
    refine w_st rfl (fun _ => rfl) ?_
    show w_T L xs (58 + 1) m_X12_undo 8 [(0, .ref 100)] [.int (Int32.ofInt 0)] S R Q
    refine w_ret rfl (by rfl) ?_
    exact hq S R hT hO rfl rfl
theorem a_X11_keep (hT : v_Tb v_ty S R) (hO : v_Op S) (hq : ∀ S' R' u, v_Tb v_ty S' R' → v_Op S' → S' 0 14 = Int32.ofInt 1 → Q (some (.int u)) S' R') : w_T L xs 59 m_X11_keep 0 (lv_args 0 [.ref 1]) [] S R Q := by
  refine w_st rfl (fun _ => rfl) ?_
  show w_T L xs (58 + 1) m_X11_keep 1 [(0, .ref 1)] [.ref 1] S R Q
  refine w_getr rfl v_tyC rfl ?_
  refine w_st rfl (fun _ => rfl) ?_
  show w_T L xs (58 + 1) m_X11_keep 5 [(0, .ref 1)] [.ref 1, .ref 12] S R Q
  refine w_getr rfl v_tyC rfl ?_
  show w_T L xs (58 + 1) m_X11_keep 8 [(0, .ref 1)] [.ref 2, .ref 12] S R Q
  refine w_cv rfl (by decide) mt_X7_copy rfl rfl rfl rfl (Nat.le_of_ble_eq_true rfl) (Nat.le_of_ble_eq_true rfl) (Nat.le_of_ble_eq_true rfl) ?_
  show w_T L xs _ m_X7_copy 0 (lv_args 0 [.ref 12, .ref 2]) [] S R _
  refine w_met (v_met 60 93 rw_124 (List.mem_of_getElem? (i := 1) rfl) (Nat.le_of_ble_eq_true rfl)) (Nat.le_of_ble_eq_true rfl) mt_X7_copy ⟨rfl, rfl, trivial⟩ hT hO (fun r S1 R1 hT1 hO1 hr hF1 => ?_)
  have hr : r = none := hr
  subst hr
  refine w_st rfl (fun _ => rfl) ?_
  refine w_st rfl (fun _ => rfl) ?_
  show w_T L xs (58 + 1) m_X11_keep 13 [(0, .ref 1)] [.int (Int32.ofInt 1), .ref 1] S1 R1 Q
  refine w_put rfl v_tyC rfl rfl rfl ?_
  have hT2 : v_Tb v_ty (v_ur S1 0 (upd (S1 0) 14 (Int32.ofInt 1))) R1 := w_TbF hT1 v_tyC rfl (by decide) (by decide)
  have hO2 : v_Op (v_ur S1 0 (upd (S1 0) 14 (Int32.ofInt 1))) := w_Op_ur rfl hO1
  show w_T L xs (58 + 1) m_X11_keep 16 [(0, .ref 1)] [] (v_ur S1 0 (upd (S1 0) 14 (Int32.ofInt 1))) R1 Q
  obtain ⟨n, r, S3, R3, a1, a2, a3, a4, a5⟩ := v_chkp_ok (L := L) (xs := xs) v_fz_ok (fun S0 R0 => v_sp_ok (fun x w hw h => v_met _ x w hw h)) (fun x w hw h => v_met _ x w hw h) cb_keep m_X11_keep mt_X11_keep [.ref 1] (v_ur S1 0 (upd (S1 0) 14 (Int32.ofInt 1))) R1 ⟨rfl, trivial⟩ hT2 hO2
  obtain ⟨u, rfl, -, -⟩ := a4
  refine ⟨n, _, S3, R3, fun e => g_run_d _ _ _ _ _ _ _ _ _ _ _ (Nat.le_of_ble_eq_true rfl) (a1 e), hq S3 R3 u a2 a3 ?_⟩
  rw [(a5 0 14 rfl).1]
  exact w_urs
theorem a_X12_keep (hT : v_Tb v_ty S R) (hO : v_Op S) (hq : ∀ S' R' u, v_Tb v_ty S' R' → v_Op S' → S' 0 14 = S 0 14 → S' 99 92 = Int32.ofInt 1 → Q (some (.int u)) S' R') : w_T L xs 59 m_X12_keep 0 (lv_args 0 [.ref 100]) [] S R Q := by
  refine w_st rfl (fun _ => rfl) ?_
  refine w_st rfl (fun _ => rfl) ?_
  show w_T L xs (58 + 1) m_X12_keep 2 [(0, .ref 100)] [.int (Int32.ofInt 1), .ref 100] S R Q
  refine w_put rfl v_tyM rfl rfl rfl ?_
  have hT1 : v_Tb v_ty (v_ur S 99 (upd (S 99) 92 (Int32.ofInt 1))) R := w_TbF hT v_tyM rfl (by decide) (by decide)
  have hO1 : v_Op (v_ur S 99 (upd (S 99) 92 (Int32.ofInt 1))) := w_Op_ur rfl hO
  refine w_st rfl (fun _ => rfl) ?_
  refine w_st rfl (fun _ => rfl) ?_
  show w_T L xs (58 + 1) m_X12_keep 7 [(0, .ref 100)] [.int (Int32.ofInt 1), .ref 100] (v_ur S 99 (upd (S 99) 92 (Int32.ofInt 1))) R Q
  refine w_cv rfl (by decide) mt_X12_laysAside v_tyM rfl rfl rfl (Nat.le_of_ble_eq_true rfl) (Nat.le_of_ble_eq_true rfl) (Nat.le_of_ble_eq_true rfl) ?_
  show w_T L xs _ m_X12_laysAside 0 (lv_args 0 [.ref 100, .int (Int32.ofInt 1)]) [] (v_ur S 99 (upd (S 99) 92 (Int32.ofInt 1))) R _
  refine w_met (v_met 60 239 rw_213 (List.mem_of_getElem? (i := 0) rfl) (Nat.le_of_ble_eq_true rfl)) (Nat.le_of_ble_eq_true rfl) mt_X12_laysAside ⟨rfl, ⟨_, rfl, by decide, by decide⟩, trivial⟩ hT1 hO1 (fun r S2 R2 hT2 hO2 hr hF2 => ?_)
  have hr : r = none := hr
  subst hr
  refine w_st rfl (fun _ => rfl) ?_
  show w_T L xs (58 + 1) m_X12_keep 11 [(0, .ref 100)] [.ref 100] S2 R2 Q
  refine w_cv rfl (by decide) mt_X12_toldGusts v_tyM rfl rfl rfl (Nat.le_of_ble_eq_true rfl) (Nat.le_of_ble_eq_true rfl) (Nat.le_of_ble_eq_true rfl) ?_
  show w_T L xs _ m_X12_toldGusts 0 (lv_args 0 [.ref 100]) [] S2 R2 _
  refine w_met (v_met 60 249 rw_222 (List.mem_of_getElem? (i := 0) rfl) (Nat.le_of_ble_eq_true rfl)) (Nat.le_of_ble_eq_true rfl) mt_X12_toldGusts ⟨rfl, trivial⟩ hT2 hO2 (fun r S3 R3 hT3 hO3 hr hF3 => ?_)
  obtain ⟨u, hr, -, -⟩ := hr
  subst hr
  show w_T L xs (58 + 1) m_X12_keep 14 [(0, .ref 100)] [.int u] S3 R3 Q
  refine w_cs rfl (by decide) mt_X12_sizeOf (fun _ => rfl) (Nat.le_of_ble_eq_true rfl) (Nat.le_of_ble_eq_true rfl) ?_
  show w_T L xs _ m_X12_sizeOf 0 (lv_args 0 [.int u]) [] S3 R3 _
  refine h_sizeOf _ ?_
  show w_T L xs (58 + 1) m_X12_keep 17 [(0, .ref 100)] [.int (v_pop u)] S3 R3 Q
  refine w_ret rfl (by rfl) ?_
  refine hq S3 R3 _ hT3 hO3 ?_ ?_
  · rw [(hF3 0 14 (by decide +kernel)).1, (hF2 0 14 (by decide +kernel)).1]; exact w_urn (by decide)
  · rw [(hF3 99 92 (by decide +kernel)).1, (hF2 99 92 (by decide +kernel)).1]; exact w_urs
end HX
set_option maxHeartbeats 20000000 in
set_option maxRecDepth 20000 in
theorem l_loop {L : Nat} {xs : Nat → Int32} (hL : L ≤ 3072) : ∀ (m i : Nat) (S : v_Sf) (R : v_Rf), L ≤ i + 6 * m → i ≤ L → v_Tb v_ty S R → v_Op S → S 0 14 = S 99 92 → w_T L xs 60 m_L_law 18 [(3, .int (Int32.ofInt (i : Int))), (2, .ref 100), (1, .ref 1), (0, .ref 0)] [] S R (fun r _ _ => r = some (.int 1)) := by
  intro m
  induction m with
  | zero =>
    intro i S R hm hi hT hO hK
    generalize hQ : (fun (r : Option Value) (_ : v_Sf) (_ : v_Rf) => r = some (.int 1)) = Q
    have ei := w_nat (k := i) (by omega)
    have eL : (Int32.ofNat L - Int32.ofInt 6).toInt = (L : Int) - 6 := by
      show (Int32.ofInt (L : Int) - Int32.ofInt 6).toInt = _
      rw [← Int32.ofInt_sub]
      exact q_ofr (by omega) (by omega)
    refine w_st rfl (fun _ => rfl) ?_
    refine w_st rfl (fun _ => rfl) ?_
    show w_T L xs 60 m_L_law 20 [(3, .int (Int32.ofInt (i : Int))), (2, .ref 100), (1, .ref 1), (0, .ref 0)] [.ref 0, .int (Int32.ofInt (i : Int))] S R Q
    refine w_sal rfl ?_
    refine w_st rfl (fun _ => rfl) ?_
    refine w_st rfl (fun _ => rfl) ?_
    show w_T L xs 60 m_L_law 24 [(3, .int (Int32.ofInt (i : Int))), (2, .ref 100), (1, .ref 1), (0, .ref 0)] [.int ((Int32.ofNat L) - (Int32.ofInt 6)), .int (Int32.ofInt (i : Int))] S R Q
    refine w_br (P := ((Int32.ofNat L) - (Int32.ofInt 6)) < (Int32.ofInt (i : Int))) rfl (fun _ => rfl) (fun h24 => ?_) (fun h24 => ?_)
    · refine w_st rfl (fun _ => rfl) ?_
      show w_T L xs 60 m_L_law 1453 [(3, .int (Int32.ofInt (i : Int))), (2, .ref 100), (1, .ref 1), (0, .ref 0)] [.int (Int32.ofInt 1)] S R Q
      refine w_ret rfl (by rfl) ?_
      rw [← hQ]; rfl
    · exfalso; rw [q_lt32, eL, ei] at h24; omega
  | succ m ih =>
    intro i S R hm hi hT hO hK
    have ih2 := fun S1 R1 (h : i + 6 ≤ L) => ih (i + 6) S1 R1 (by omega) h
    generalize hQ : (fun (r : Option Value) (_ : v_Sf) (_ : v_Rf) => r = some (.int 1)) = Q at ih2 ⊢
    have ei := w_nat (k := i) (by omega)
    have eL : (Int32.ofNat L - Int32.ofInt 6).toInt = (L : Int) - 6 := by
      show (Int32.ofInt (L : Int) - Int32.ofInt 6).toInt = _
      rw [← Int32.ofInt_sub]
      exact q_ofr (by omega) (by omega)
    refine w_st rfl (fun _ => rfl) ?_
    refine w_st rfl (fun _ => rfl) ?_
    show w_T L xs 60 m_L_law 20 [(3, .int (Int32.ofInt (i : Int))), (2, .ref 100), (1, .ref 1), (0, .ref 0)] [.ref 0, .int (Int32.ofInt (i : Int))] S R Q
    refine w_sal rfl ?_
    refine w_st rfl (fun _ => rfl) ?_
    refine w_st rfl (fun _ => rfl) ?_
    show w_T L xs 60 m_L_law 24 [(3, .int (Int32.ofInt (i : Int))), (2, .ref 100), (1, .ref 1), (0, .ref 0)] [.int ((Int32.ofNat L) - (Int32.ofInt 6)), .int (Int32.ofInt (i : Int))] S R Q
    refine w_br (P := ((Int32.ofNat L) - (Int32.ofInt 6)) < (Int32.ofInt (i : Int))) rfl (fun _ => rfl) (fun h24 => ?_) (fun h24 => ?_)
    · refine w_st rfl (fun _ => rfl) ?_
      show w_T L xs 60 m_L_law 1453 [(3, .int (Int32.ofInt (i : Int))), (2, .ref 100), (1, .ref 1), (0, .ref 0)] [.int (Int32.ofInt 1)] S R Q
      refine w_ret rfl (by rfl) ?_
      rw [← hQ]; rfl
    · have hb : i + 6 ≤ L := by
        rw [q_lt32, eL, ei] at h24
        omega
      have tail : ∀ S1 R1, v_Tb v_ty S1 R1 → v_Op S1 → S1 0 14 = S1 99 92 → w_T L xs 60 m_L_law 1446 [(3, .int (Int32.ofInt (i : Int))), (2, .ref 100), (1, .ref 1), (0, .ref 0)] [] S1 R1 Q := by
        intro S1 R1 hT1 hO1 hK1
        refine w_st rfl (fun _ => rfl) ?_
        refine w_st rfl (fun _ => rfl) ?_
        have e6 : Int32.ofInt (i : Int) + Int32.ofInt 6 = Int32.ofInt ((i + 6 : Nat) : Int) := by rw [← Int32.ofInt_add]; rfl
        have := ih2 S1 R1 hb hT1 hO1 hK1
        rw [← e6] at this
        exact this
      refine w_st rfl (fun _ => rfl) ?_
      refine w_st rfl (fun _ => rfl) ?_
      show w_T L xs 60 m_L_law 29 [(3, .int (Int32.ofInt (i : Int))), (2, .ref 100), (1, .ref 1), (0, .ref 0)] [.int (Int32.ofInt (i : Int)), .ref 0] S R Q
      refine w_sld rfl (by first | (rw [← Int32.ofInt_add, q_ofr (by omega) (by omega)]; omega) | (rw [w_nat (by omega)]; omega)) (by first | (rw [← Int32.ofInt_add, q_ofr (by omega) (by omega)]; omega) | (rw [w_nat (by omega)]; omega)) ?_
      refine w_st rfl (fun _ => rfl) ?_
      refine w_st rfl (fun _ => rfl) ?_
      show w_T L xs 60 m_L_law 33 [(3, .int (Int32.ofInt (i : Int))), (2, .ref 100), (1, .ref 1), (0, .ref 0)] [.int ((xs (Int32.ofInt (i : Int)).toInt.toNat) &&& (Int32.ofInt 63))] S R Q
      refine w_ts rfl (by decide) (nd := 1446) (by decide) (fun k o hk hv => ?_) (tail S R hT hO hK)
      match k, hk with
      | 0, hk =>
        obtain rfl : (159 : Int) = o := Option.some.inj hk
        refine ⟨192, by decide, ?_⟩
        refine w_st rfl (fun _ => rfl) ?_
        refine w_st rfl (fun _ => rfl) ?_
        refine w_st rfl (fun _ => rfl) ?_
        refine w_st rfl (fun _ => rfl) ?_
        refine w_st rfl (fun _ => rfl) ?_
        show w_T L xs 60 m_L_law 197 [(3, .int (Int32.ofInt (i : Int))), (2, .ref 100), (1, .ref 1), (0, .ref 0)] [.int ((Int32.ofInt (i : Int)) + (Int32.ofInt 1)), .ref 0, .ref 1] S R Q
        refine w_sld rfl (by first | (rw [← Int32.ofInt_add, q_ofr (by omega) (by omega)]; omega) | (rw [w_nat (by omega)]; omega)) (by first | (rw [← Int32.ofInt_add, q_ofr (by omega) (by omega)]; omega) | (rw [w_nat (by omega)]; omega)) ?_
        refine w_st rfl (fun _ => rfl) ?_
        refine w_st rfl (fun _ => rfl) ?_
        refine w_st rfl (fun _ => rfl) ?_
        refine w_st rfl (fun _ => rfl) ?_
        show w_T L xs 60 m_L_law 202 [(3, .int (Int32.ofInt (i : Int))), (2, .ref 100), (1, .ref 1), (0, .ref 0)] [.int ((Int32.ofInt (i : Int)) + (Int32.ofInt 2)), .ref 0, .int (xs ((Int32.ofInt (i : Int)) + (Int32.ofInt 1)).toInt.toNat), .ref 1] S R Q
        refine w_sld rfl (by first | (rw [← Int32.ofInt_add, q_ofr (by omega) (by omega)]; omega) | (rw [w_nat (by omega)]; omega)) (by first | (rw [← Int32.ofInt_add, q_ofr (by omega) (by omega)]; omega) | (rw [w_nat (by omega)]; omega)) ?_
        refine w_st rfl (fun _ => rfl) ?_
        refine w_st rfl (fun _ => rfl) ?_
        refine w_st rfl (fun _ => rfl) ?_
        refine w_st rfl (fun _ => rfl) ?_
        show w_T L xs 60 m_L_law 207 [(3, .int (Int32.ofInt (i : Int))), (2, .ref 100), (1, .ref 1), (0, .ref 0)] [.int ((Int32.ofInt (i : Int)) + (Int32.ofInt 3)), .ref 0, .int (xs ((Int32.ofInt (i : Int)) + (Int32.ofInt 2)).toInt.toNat), .int (xs ((Int32.ofInt (i : Int)) + (Int32.ofInt 1)).toInt.toNat), .ref 1] S R Q
        refine w_sld rfl (by first | (rw [← Int32.ofInt_add, q_ofr (by omega) (by omega)]; omega) | (rw [w_nat (by omega)]; omega)) (by first | (rw [← Int32.ofInt_add, q_ofr (by omega) (by omega)]; omega) | (rw [w_nat (by omega)]; omega)) ?_
        refine w_st rfl (fun _ => rfl) ?_
        refine w_st rfl (fun _ => rfl) ?_
        refine w_st rfl (fun _ => rfl) ?_
        refine w_st rfl (fun _ => rfl) ?_
        show w_T L xs 60 m_L_law 212 [(3, .int (Int32.ofInt (i : Int))), (2, .ref 100), (1, .ref 1), (0, .ref 0)] [.int ((Int32.ofInt (i : Int)) + (Int32.ofInt 4)), .ref 0, .int (xs ((Int32.ofInt (i : Int)) + (Int32.ofInt 3)).toInt.toNat), .int (xs ((Int32.ofInt (i : Int)) + (Int32.ofInt 2)).toInt.toNat), .int (xs ((Int32.ofInt (i : Int)) + (Int32.ofInt 1)).toInt.toNat), .ref 1] S R Q
        refine w_sld rfl (by first | (rw [← Int32.ofInt_add, q_ofr (by omega) (by omega)]; omega) | (rw [w_nat (by omega)]; omega)) (by first | (rw [← Int32.ofInt_add, q_ofr (by omega) (by omega)]; omega) | (rw [w_nat (by omega)]; omega)) ?_
        refine w_st rfl (fun _ => rfl) ?_
        refine w_st rfl (fun _ => rfl) ?_
        refine w_st rfl (fun _ => rfl) ?_
        refine w_st rfl (fun _ => rfl) ?_
        show w_T L xs 60 m_L_law 217 [(3, .int (Int32.ofInt (i : Int))), (2, .ref 100), (1, .ref 1), (0, .ref 0)] [.int ((Int32.ofInt (i : Int)) + (Int32.ofInt 5)), .ref 0, .int (xs ((Int32.ofInt (i : Int)) + (Int32.ofInt 4)).toInt.toNat), .int (xs ((Int32.ofInt (i : Int)) + (Int32.ofInt 3)).toInt.toNat), .int (xs ((Int32.ofInt (i : Int)) + (Int32.ofInt 2)).toInt.toNat), .int (xs ((Int32.ofInt (i : Int)) + (Int32.ofInt 1)).toInt.toNat), .ref 1] S R Q
        refine w_sld rfl (by first | (rw [← Int32.ofInt_add, q_ofr (by omega) (by omega)]; omega) | (rw [w_nat (by omega)]; omega)) (by first | (rw [← Int32.ofInt_add, q_ofr (by omega) (by omega)]; omega) | (rw [w_nat (by omega)]; omega)) ?_
        show w_T L xs 60 m_L_law 218 [(3, .int (Int32.ofInt (i : Int))), (2, .ref 100), (1, .ref 1), (0, .ref 0)] [.int (xs ((Int32.ofInt (i : Int)) + (Int32.ofInt 5)).toInt.toNat), .int (xs ((Int32.ofInt (i : Int)) + (Int32.ofInt 4)).toInt.toNat), .int (xs ((Int32.ofInt (i : Int)) + (Int32.ofInt 3)).toInt.toNat), .int (xs ((Int32.ofInt (i : Int)) + (Int32.ofInt 2)).toInt.toNat), .int (xs ((Int32.ofInt (i : Int)) + (Int32.ofInt 1)).toInt.toNat), .ref 1] S R Q
        refine w_cv rfl (by decide) mt_X11_gust v_tyC rfl rfl rfl (Nat.le_of_ble_eq_true rfl) (Nat.le_of_ble_eq_true rfl) (Nat.le_of_ble_eq_true rfl) ?_
        show w_T L xs _ m_X11_gust 0 (lv_args 0 [.ref 1, .int (xs ((Int32.ofInt (i : Int)) + (Int32.ofInt 1)).toInt.toNat), .int (xs ((Int32.ofInt (i : Int)) + (Int32.ofInt 2)).toInt.toNat), .int (xs ((Int32.ofInt (i : Int)) + (Int32.ofInt 3)).toInt.toNat), .int (xs ((Int32.ofInt (i : Int)) + (Int32.ofInt 4)).toInt.toNat), .int (xs ((Int32.ofInt (i : Int)) + (Int32.ofInt 5)).toInt.toNat)]) [] S R _
        refine w_met (v_met 60 111 rw_138 (List.mem_of_getElem? (i := 0) rfl) (Nat.le_of_ble_eq_true rfl)) (Nat.le_of_ble_eq_true rfl) mt_X11_gust ⟨rfl, ⟨_, rfl, (q_rng _).1, (q_rng _).2⟩, ⟨_, rfl, (q_rng _).1, (q_rng _).2⟩, ⟨_, rfl, (q_rng _).1, (q_rng _).2⟩, ⟨_, rfl, (q_rng _).1, (q_rng _).2⟩, ⟨_, rfl, (q_rng _).1, (q_rng _).2⟩, trivial⟩ hT hO (fun r S1 R1 hT1 hO1 hr hF1 => ?_)
        obtain ⟨u1, hr, -, -⟩ := hr
        subst hr
        have hK1 : S1 0 14 = S1 99 92 := by rw [(hF1 0 14 (by decide +kernel)).1, (hF1 99 92 (by decide +kernel)).1]; exact hK
        refine w_st rfl (fun _ => rfl) ?_
        refine w_st rfl (fun _ => rfl) ?_
        refine w_st rfl (fun _ => rfl) ?_
        refine w_st rfl (fun _ => rfl) ?_
        refine w_st rfl (fun _ => rfl) ?_
        refine w_st rfl (fun _ => rfl) ?_
        show w_T L xs 60 m_L_law 227 [(3, .int (Int32.ofInt (i : Int))), (2, .ref 100), (1, .ref 1), (0, .ref 0)] [.int ((Int32.ofInt (i : Int)) + (Int32.ofInt 1)), .ref 0, .ref 100] S1 R1 Q
        refine w_sld rfl (by first | (rw [← Int32.ofInt_add, q_ofr (by omega) (by omega)]; omega) | (rw [w_nat (by omega)]; omega)) (by first | (rw [← Int32.ofInt_add, q_ofr (by omega) (by omega)]; omega) | (rw [w_nat (by omega)]; omega)) ?_
        refine w_st rfl (fun _ => rfl) ?_
        refine w_st rfl (fun _ => rfl) ?_
        refine w_st rfl (fun _ => rfl) ?_
        refine w_st rfl (fun _ => rfl) ?_
        show w_T L xs 60 m_L_law 232 [(3, .int (Int32.ofInt (i : Int))), (2, .ref 100), (1, .ref 1), (0, .ref 0)] [.int ((Int32.ofInt (i : Int)) + (Int32.ofInt 2)), .ref 0, .int (xs ((Int32.ofInt (i : Int)) + (Int32.ofInt 1)).toInt.toNat), .ref 100] S1 R1 Q
        refine w_sld rfl (by first | (rw [← Int32.ofInt_add, q_ofr (by omega) (by omega)]; omega) | (rw [w_nat (by omega)]; omega)) (by first | (rw [← Int32.ofInt_add, q_ofr (by omega) (by omega)]; omega) | (rw [w_nat (by omega)]; omega)) ?_
        refine w_st rfl (fun _ => rfl) ?_
        refine w_st rfl (fun _ => rfl) ?_
        refine w_st rfl (fun _ => rfl) ?_
        refine w_st rfl (fun _ => rfl) ?_
        show w_T L xs 60 m_L_law 237 [(3, .int (Int32.ofInt (i : Int))), (2, .ref 100), (1, .ref 1), (0, .ref 0)] [.int ((Int32.ofInt (i : Int)) + (Int32.ofInt 3)), .ref 0, .int (xs ((Int32.ofInt (i : Int)) + (Int32.ofInt 2)).toInt.toNat), .int (xs ((Int32.ofInt (i : Int)) + (Int32.ofInt 1)).toInt.toNat), .ref 100] S1 R1 Q
        refine w_sld rfl (by first | (rw [← Int32.ofInt_add, q_ofr (by omega) (by omega)]; omega) | (rw [w_nat (by omega)]; omega)) (by first | (rw [← Int32.ofInt_add, q_ofr (by omega) (by omega)]; omega) | (rw [w_nat (by omega)]; omega)) ?_
        refine w_st rfl (fun _ => rfl) ?_
        refine w_st rfl (fun _ => rfl) ?_
        refine w_st rfl (fun _ => rfl) ?_
        refine w_st rfl (fun _ => rfl) ?_
        show w_T L xs 60 m_L_law 242 [(3, .int (Int32.ofInt (i : Int))), (2, .ref 100), (1, .ref 1), (0, .ref 0)] [.int ((Int32.ofInt (i : Int)) + (Int32.ofInt 4)), .ref 0, .int (xs ((Int32.ofInt (i : Int)) + (Int32.ofInt 3)).toInt.toNat), .int (xs ((Int32.ofInt (i : Int)) + (Int32.ofInt 2)).toInt.toNat), .int (xs ((Int32.ofInt (i : Int)) + (Int32.ofInt 1)).toInt.toNat), .ref 100] S1 R1 Q
        refine w_sld rfl (by first | (rw [← Int32.ofInt_add, q_ofr (by omega) (by omega)]; omega) | (rw [w_nat (by omega)]; omega)) (by first | (rw [← Int32.ofInt_add, q_ofr (by omega) (by omega)]; omega) | (rw [w_nat (by omega)]; omega)) ?_
        refine w_st rfl (fun _ => rfl) ?_
        refine w_st rfl (fun _ => rfl) ?_
        refine w_st rfl (fun _ => rfl) ?_
        refine w_st rfl (fun _ => rfl) ?_
        show w_T L xs 60 m_L_law 247 [(3, .int (Int32.ofInt (i : Int))), (2, .ref 100), (1, .ref 1), (0, .ref 0)] [.int ((Int32.ofInt (i : Int)) + (Int32.ofInt 5)), .ref 0, .int (xs ((Int32.ofInt (i : Int)) + (Int32.ofInt 4)).toInt.toNat), .int (xs ((Int32.ofInt (i : Int)) + (Int32.ofInt 3)).toInt.toNat), .int (xs ((Int32.ofInt (i : Int)) + (Int32.ofInt 2)).toInt.toNat), .int (xs ((Int32.ofInt (i : Int)) + (Int32.ofInt 1)).toInt.toNat), .ref 100] S1 R1 Q
        refine w_sld rfl (by first | (rw [← Int32.ofInt_add, q_ofr (by omega) (by omega)]; omega) | (rw [w_nat (by omega)]; omega)) (by first | (rw [← Int32.ofInt_add, q_ofr (by omega) (by omega)]; omega) | (rw [w_nat (by omega)]; omega)) ?_
        show w_T L xs 60 m_L_law 248 [(3, .int (Int32.ofInt (i : Int))), (2, .ref 100), (1, .ref 1), (0, .ref 0)] [.int (xs ((Int32.ofInt (i : Int)) + (Int32.ofInt 5)).toInt.toNat), .int (xs ((Int32.ofInt (i : Int)) + (Int32.ofInt 4)).toInt.toNat), .int (xs ((Int32.ofInt (i : Int)) + (Int32.ofInt 3)).toInt.toNat), .int (xs ((Int32.ofInt (i : Int)) + (Int32.ofInt 2)).toInt.toNat), .int (xs ((Int32.ofInt (i : Int)) + (Int32.ofInt 1)).toInt.toNat), .ref 100] S1 R1 Q
        refine w_cv rfl (by decide) mt_X12_gust v_tyM rfl rfl rfl (Nat.le_of_ble_eq_true rfl) (Nat.le_of_ble_eq_true rfl) (Nat.le_of_ble_eq_true rfl) ?_
        show w_T L xs _ m_X12_gust 0 (lv_args 0 [.ref 100, .int (xs ((Int32.ofInt (i : Int)) + (Int32.ofInt 1)).toInt.toNat), .int (xs ((Int32.ofInt (i : Int)) + (Int32.ofInt 2)).toInt.toNat), .int (xs ((Int32.ofInt (i : Int)) + (Int32.ofInt 3)).toInt.toNat), .int (xs ((Int32.ofInt (i : Int)) + (Int32.ofInt 4)).toInt.toNat), .int (xs ((Int32.ofInt (i : Int)) + (Int32.ofInt 5)).toInt.toNat)]) [] S1 R1 _
        refine w_met (v_met 60 215 rw_195 (List.mem_of_getElem? (i := 0) rfl) (Nat.le_of_ble_eq_true rfl)) (Nat.le_of_ble_eq_true rfl) mt_X12_gust ⟨rfl, ⟨_, rfl, (q_rng _).1, (q_rng _).2⟩, ⟨_, rfl, (q_rng _).1, (q_rng _).2⟩, ⟨_, rfl, (q_rng _).1, (q_rng _).2⟩, ⟨_, rfl, (q_rng _).1, (q_rng _).2⟩, ⟨_, rfl, (q_rng _).1, (q_rng _).2⟩, trivial⟩ hT1 hO1 (fun r S2 R2 hT2 hO2 hr hF2 => ?_)
        obtain ⟨u2, hr, -, -⟩ := hr
        subst hr
        have hK2 : S2 0 14 = S2 99 92 := by rw [(hF2 0 14 (by decide +kernel)).1, (hF2 99 92 (by decide +kernel)).1]; exact hK1
        refine w_st rfl (fun _ => rfl) ?_
        refine w_st rfl (fun _ => rfl) ?_
        show w_T L xs 60 m_L_law 1446 [(3, .int (Int32.ofInt (i : Int))), (2, .ref 100), (1, .ref 1), (0, .ref 0)] [] S2 R2 Q
        exact tail S2 R2 hT2 hO2 hK2
      | 1, hk =>
        obtain rfl : (222 : Int) = o := Option.some.inj hk
        refine ⟨255, by decide, ?_⟩
        refine w_st rfl (fun _ => rfl) ?_
        refine w_st rfl (fun _ => rfl) ?_
        refine w_st rfl (fun _ => rfl) ?_
        refine w_st rfl (fun _ => rfl) ?_
        refine w_st rfl (fun _ => rfl) ?_
        show w_T L xs 60 m_L_law 260 [(3, .int (Int32.ofInt (i : Int))), (2, .ref 100), (1, .ref 1), (0, .ref 0)] [.int ((Int32.ofInt (i : Int)) + (Int32.ofInt 1)), .ref 0, .ref 1] S R Q
        refine w_sld rfl (by first | (rw [← Int32.ofInt_add, q_ofr (by omega) (by omega)]; omega) | (rw [w_nat (by omega)]; omega)) (by first | (rw [← Int32.ofInt_add, q_ofr (by omega) (by omega)]; omega) | (rw [w_nat (by omega)]; omega)) ?_
        refine w_st rfl (fun _ => rfl) ?_
        refine w_st rfl (fun _ => rfl) ?_
        refine w_st rfl (fun _ => rfl) ?_
        refine w_st rfl (fun _ => rfl) ?_
        show w_T L xs 60 m_L_law 265 [(3, .int (Int32.ofInt (i : Int))), (2, .ref 100), (1, .ref 1), (0, .ref 0)] [.int ((Int32.ofInt (i : Int)) + (Int32.ofInt 2)), .ref 0, .int (xs ((Int32.ofInt (i : Int)) + (Int32.ofInt 1)).toInt.toNat), .ref 1] S R Q
        refine w_sld rfl (by first | (rw [← Int32.ofInt_add, q_ofr (by omega) (by omega)]; omega) | (rw [w_nat (by omega)]; omega)) (by first | (rw [← Int32.ofInt_add, q_ofr (by omega) (by omega)]; omega) | (rw [w_nat (by omega)]; omega)) ?_
        show w_T L xs 60 m_L_law 266 [(3, .int (Int32.ofInt (i : Int))), (2, .ref 100), (1, .ref 1), (0, .ref 0)] [.int (xs ((Int32.ofInt (i : Int)) + (Int32.ofInt 2)).toInt.toNat), .int (xs ((Int32.ofInt (i : Int)) + (Int32.ofInt 1)).toInt.toNat), .ref 1] S R Q
        refine w_cv rfl (by decide) mt_X11_name v_tyC rfl rfl rfl (Nat.le_of_ble_eq_true rfl) (Nat.le_of_ble_eq_true rfl) (Nat.le_of_ble_eq_true rfl) ?_
        show w_T L xs _ m_X11_name 0 (lv_args 0 [.ref 1, .int (xs ((Int32.ofInt (i : Int)) + (Int32.ofInt 1)).toInt.toNat), .int (xs ((Int32.ofInt (i : Int)) + (Int32.ofInt 2)).toInt.toNat)]) [] S R _
        refine w_met (v_met 60 112 rw_139 (List.mem_of_getElem? (i := 0) rfl) (Nat.le_of_ble_eq_true rfl)) (Nat.le_of_ble_eq_true rfl) mt_X11_name ⟨rfl, ⟨_, rfl, (q_rng _).1, (q_rng _).2⟩, ⟨_, rfl, (q_rng _).1, (q_rng _).2⟩, trivial⟩ hT hO (fun r S1 R1 hT1 hO1 hr hF1 => ?_)
        obtain ⟨u1, hr, -, -⟩ := hr
        subst hr
        have hK1 : S1 0 14 = S1 99 92 := by rw [(hF1 0 14 (by decide +kernel)).1, (hF1 99 92 (by decide +kernel)).1]; exact hK
        refine w_st rfl (fun _ => rfl) ?_
        refine w_st rfl (fun _ => rfl) ?_
        refine w_st rfl (fun _ => rfl) ?_
        refine w_st rfl (fun _ => rfl) ?_
        refine w_st rfl (fun _ => rfl) ?_
        refine w_st rfl (fun _ => rfl) ?_
        show w_T L xs 60 m_L_law 275 [(3, .int (Int32.ofInt (i : Int))), (2, .ref 100), (1, .ref 1), (0, .ref 0)] [.int ((Int32.ofInt (i : Int)) + (Int32.ofInt 1)), .ref 0, .ref 100] S1 R1 Q
        refine w_sld rfl (by first | (rw [← Int32.ofInt_add, q_ofr (by omega) (by omega)]; omega) | (rw [w_nat (by omega)]; omega)) (by first | (rw [← Int32.ofInt_add, q_ofr (by omega) (by omega)]; omega) | (rw [w_nat (by omega)]; omega)) ?_
        refine w_st rfl (fun _ => rfl) ?_
        refine w_st rfl (fun _ => rfl) ?_
        refine w_st rfl (fun _ => rfl) ?_
        refine w_st rfl (fun _ => rfl) ?_
        show w_T L xs 60 m_L_law 280 [(3, .int (Int32.ofInt (i : Int))), (2, .ref 100), (1, .ref 1), (0, .ref 0)] [.int ((Int32.ofInt (i : Int)) + (Int32.ofInt 2)), .ref 0, .int (xs ((Int32.ofInt (i : Int)) + (Int32.ofInt 1)).toInt.toNat), .ref 100] S1 R1 Q
        refine w_sld rfl (by first | (rw [← Int32.ofInt_add, q_ofr (by omega) (by omega)]; omega) | (rw [w_nat (by omega)]; omega)) (by first | (rw [← Int32.ofInt_add, q_ofr (by omega) (by omega)]; omega) | (rw [w_nat (by omega)]; omega)) ?_
        show w_T L xs 60 m_L_law 281 [(3, .int (Int32.ofInt (i : Int))), (2, .ref 100), (1, .ref 1), (0, .ref 0)] [.int (xs ((Int32.ofInt (i : Int)) + (Int32.ofInt 2)).toInt.toNat), .int (xs ((Int32.ofInt (i : Int)) + (Int32.ofInt 1)).toInt.toNat), .ref 100] S1 R1 Q
        refine w_cv rfl (by decide) mt_X12_name v_tyM rfl rfl rfl (Nat.le_of_ble_eq_true rfl) (Nat.le_of_ble_eq_true rfl) (Nat.le_of_ble_eq_true rfl) ?_
        show w_T L xs _ m_X12_name 0 (lv_args 0 [.ref 100, .int (xs ((Int32.ofInt (i : Int)) + (Int32.ofInt 1)).toInt.toNat), .int (xs ((Int32.ofInt (i : Int)) + (Int32.ofInt 2)).toInt.toNat)]) [] S1 R1 _
        refine w_met (v_met 60 216 rw_196 (List.mem_of_getElem? (i := 0) rfl) (Nat.le_of_ble_eq_true rfl)) (Nat.le_of_ble_eq_true rfl) mt_X12_name ⟨rfl, ⟨_, rfl, (q_rng _).1, (q_rng _).2⟩, ⟨_, rfl, (q_rng _).1, (q_rng _).2⟩, trivial⟩ hT1 hO1 (fun r S2 R2 hT2 hO2 hr hF2 => ?_)
        obtain ⟨u2, hr, -, -⟩ := hr
        subst hr
        have hK2 : S2 0 14 = S2 99 92 := by rw [(hF2 0 14 (by decide +kernel)).1, (hF2 99 92 (by decide +kernel)).1]; exact hK1
        refine w_st rfl (fun _ => rfl) ?_
        refine w_st rfl (fun _ => rfl) ?_
        show w_T L xs 60 m_L_law 1446 [(3, .int (Int32.ofInt (i : Int))), (2, .ref 100), (1, .ref 1), (0, .ref 0)] [] S2 R2 Q
        exact tail S2 R2 hT2 hO2 hK2
      | 2, hk =>
        obtain rfl : (255 : Int) = o := Option.some.inj hk
        refine ⟨288, by decide, ?_⟩
        refine w_st rfl (fun _ => rfl) ?_
        refine w_st rfl (fun _ => rfl) ?_
        refine w_st rfl (fun _ => rfl) ?_
        refine w_st rfl (fun _ => rfl) ?_
        refine w_st rfl (fun _ => rfl) ?_
        show w_T L xs 60 m_L_law 293 [(3, .int (Int32.ofInt (i : Int))), (2, .ref 100), (1, .ref 1), (0, .ref 0)] [.int ((Int32.ofInt (i : Int)) + (Int32.ofInt 1)), .ref 0, .ref 1] S R Q
        refine w_sld rfl (by first | (rw [← Int32.ofInt_add, q_ofr (by omega) (by omega)]; omega) | (rw [w_nat (by omega)]; omega)) (by first | (rw [← Int32.ofInt_add, q_ofr (by omega) (by omega)]; omega) | (rw [w_nat (by omega)]; omega)) ?_
        refine w_st rfl (fun _ => rfl) ?_
        refine w_st rfl (fun _ => rfl) ?_
        refine w_st rfl (fun _ => rfl) ?_
        refine w_st rfl (fun _ => rfl) ?_
        show w_T L xs 60 m_L_law 298 [(3, .int (Int32.ofInt (i : Int))), (2, .ref 100), (1, .ref 1), (0, .ref 0)] [.int ((Int32.ofInt (i : Int)) + (Int32.ofInt 2)), .ref 0, .int (xs ((Int32.ofInt (i : Int)) + (Int32.ofInt 1)).toInt.toNat), .ref 1] S R Q
        refine w_sld rfl (by first | (rw [← Int32.ofInt_add, q_ofr (by omega) (by omega)]; omega) | (rw [w_nat (by omega)]; omega)) (by first | (rw [← Int32.ofInt_add, q_ofr (by omega) (by omega)]; omega) | (rw [w_nat (by omega)]; omega)) ?_
        show w_T L xs 60 m_L_law 299 [(3, .int (Int32.ofInt (i : Int))), (2, .ref 100), (1, .ref 1), (0, .ref 0)] [.int (xs ((Int32.ofInt (i : Int)) + (Int32.ofInt 2)).toInt.toNat), .int (xs ((Int32.ofInt (i : Int)) + (Int32.ofInt 1)).toInt.toNat), .ref 1] S R Q
        refine w_cv rfl (by decide) mt_X11_moves v_tyC rfl rfl rfl (Nat.le_of_ble_eq_true rfl) (Nat.le_of_ble_eq_true rfl) (Nat.le_of_ble_eq_true rfl) ?_
        show w_T L xs _ m_X11_moves 0 (lv_args 0 [.ref 1, .int (xs ((Int32.ofInt (i : Int)) + (Int32.ofInt 1)).toInt.toNat), .int (xs ((Int32.ofInt (i : Int)) + (Int32.ofInt 2)).toInt.toNat)]) [] S R _
        refine w_met (v_met 60 113 rw_140 (List.mem_of_getElem? (i := 0) rfl) (Nat.le_of_ble_eq_true rfl)) (Nat.le_of_ble_eq_true rfl) mt_X11_moves ⟨rfl, ⟨_, rfl, (q_rng _).1, (q_rng _).2⟩, ⟨_, rfl, (q_rng _).1, (q_rng _).2⟩, trivial⟩ hT hO (fun r S1 R1 hT1 hO1 hr hF1 => ?_)
        obtain ⟨u1, hr, -, -⟩ := hr
        subst hr
        have hK1 : S1 0 14 = S1 99 92 := by rw [(hF1 0 14 (by decide +kernel)).1, (hF1 99 92 (by decide +kernel)).1]; exact hK
        refine w_st rfl (fun _ => rfl) ?_
        refine w_st rfl (fun _ => rfl) ?_
        refine w_st rfl (fun _ => rfl) ?_
        refine w_st rfl (fun _ => rfl) ?_
        refine w_st rfl (fun _ => rfl) ?_
        refine w_st rfl (fun _ => rfl) ?_
        show w_T L xs 60 m_L_law 308 [(3, .int (Int32.ofInt (i : Int))), (2, .ref 100), (1, .ref 1), (0, .ref 0)] [.int ((Int32.ofInt (i : Int)) + (Int32.ofInt 1)), .ref 0, .ref 100] S1 R1 Q
        refine w_sld rfl (by first | (rw [← Int32.ofInt_add, q_ofr (by omega) (by omega)]; omega) | (rw [w_nat (by omega)]; omega)) (by first | (rw [← Int32.ofInt_add, q_ofr (by omega) (by omega)]; omega) | (rw [w_nat (by omega)]; omega)) ?_
        refine w_st rfl (fun _ => rfl) ?_
        refine w_st rfl (fun _ => rfl) ?_
        refine w_st rfl (fun _ => rfl) ?_
        refine w_st rfl (fun _ => rfl) ?_
        show w_T L xs 60 m_L_law 313 [(3, .int (Int32.ofInt (i : Int))), (2, .ref 100), (1, .ref 1), (0, .ref 0)] [.int ((Int32.ofInt (i : Int)) + (Int32.ofInt 2)), .ref 0, .int (xs ((Int32.ofInt (i : Int)) + (Int32.ofInt 1)).toInt.toNat), .ref 100] S1 R1 Q
        refine w_sld rfl (by first | (rw [← Int32.ofInt_add, q_ofr (by omega) (by omega)]; omega) | (rw [w_nat (by omega)]; omega)) (by first | (rw [← Int32.ofInt_add, q_ofr (by omega) (by omega)]; omega) | (rw [w_nat (by omega)]; omega)) ?_
        show w_T L xs 60 m_L_law 314 [(3, .int (Int32.ofInt (i : Int))), (2, .ref 100), (1, .ref 1), (0, .ref 0)] [.int (xs ((Int32.ofInt (i : Int)) + (Int32.ofInt 2)).toInt.toNat), .int (xs ((Int32.ofInt (i : Int)) + (Int32.ofInt 1)).toInt.toNat), .ref 100] S1 R1 Q
        refine w_cv rfl (by decide) mt_X12_moves v_tyM rfl rfl rfl (Nat.le_of_ble_eq_true rfl) (Nat.le_of_ble_eq_true rfl) (Nat.le_of_ble_eq_true rfl) ?_
        show w_T L xs _ m_X12_moves 0 (lv_args 0 [.ref 100, .int (xs ((Int32.ofInt (i : Int)) + (Int32.ofInt 1)).toInt.toNat), .int (xs ((Int32.ofInt (i : Int)) + (Int32.ofInt 2)).toInt.toNat)]) [] S1 R1 _
        refine w_met (v_met 60 217 rw_197 (List.mem_of_getElem? (i := 0) rfl) (Nat.le_of_ble_eq_true rfl)) (Nat.le_of_ble_eq_true rfl) mt_X12_moves ⟨rfl, ⟨_, rfl, (q_rng _).1, (q_rng _).2⟩, ⟨_, rfl, (q_rng _).1, (q_rng _).2⟩, trivial⟩ hT1 hO1 (fun r S2 R2 hT2 hO2 hr hF2 => ?_)
        obtain ⟨u2, hr, -, -⟩ := hr
        subst hr
        have hK2 : S2 0 14 = S2 99 92 := by rw [(hF2 0 14 (by decide +kernel)).1, (hF2 99 92 (by decide +kernel)).1]; exact hK1
        refine w_st rfl (fun _ => rfl) ?_
        refine w_st rfl (fun _ => rfl) ?_
        show w_T L xs 60 m_L_law 1446 [(3, .int (Int32.ofInt (i : Int))), (2, .ref 100), (1, .ref 1), (0, .ref 0)] [] S2 R2 Q
        exact tail S2 R2 hT2 hO2 hK2
      | 3, hk =>
        obtain rfl : (288 : Int) = o := Option.some.inj hk
        refine ⟨321, by decide, ?_⟩
        refine w_st rfl (fun _ => rfl) ?_
        refine w_st rfl (fun _ => rfl) ?_
        refine w_st rfl (fun _ => rfl) ?_
        refine w_st rfl (fun _ => rfl) ?_
        refine w_st rfl (fun _ => rfl) ?_
        show w_T L xs 60 m_L_law 326 [(3, .int (Int32.ofInt (i : Int))), (2, .ref 100), (1, .ref 1), (0, .ref 0)] [.int ((Int32.ofInt (i : Int)) + (Int32.ofInt 1)), .ref 0, .ref 1] S R Q
        refine w_sld rfl (by first | (rw [← Int32.ofInt_add, q_ofr (by omega) (by omega)]; omega) | (rw [w_nat (by omega)]; omega)) (by first | (rw [← Int32.ofInt_add, q_ofr (by omega) (by omega)]; omega) | (rw [w_nat (by omega)]; omega)) ?_
        refine w_st rfl (fun _ => rfl) ?_
        refine w_st rfl (fun _ => rfl) ?_
        refine w_st rfl (fun _ => rfl) ?_
        refine w_st rfl (fun _ => rfl) ?_
        show w_T L xs 60 m_L_law 331 [(3, .int (Int32.ofInt (i : Int))), (2, .ref 100), (1, .ref 1), (0, .ref 0)] [.int ((Int32.ofInt (i : Int)) + (Int32.ofInt 2)), .ref 0, .int (xs ((Int32.ofInt (i : Int)) + (Int32.ofInt 1)).toInt.toNat), .ref 1] S R Q
        refine w_sld rfl (by first | (rw [← Int32.ofInt_add, q_ofr (by omega) (by omega)]; omega) | (rw [w_nat (by omega)]; omega)) (by first | (rw [← Int32.ofInt_add, q_ofr (by omega) (by omega)]; omega) | (rw [w_nat (by omega)]; omega)) ?_
        refine w_st rfl (fun _ => rfl) ?_
        refine w_st rfl (fun _ => rfl) ?_
        refine w_st rfl (fun _ => rfl) ?_
        refine w_st rfl (fun _ => rfl) ?_
        show w_T L xs 60 m_L_law 336 [(3, .int (Int32.ofInt (i : Int))), (2, .ref 100), (1, .ref 1), (0, .ref 0)] [.int ((Int32.ofInt (i : Int)) + (Int32.ofInt 3)), .ref 0, .int (xs ((Int32.ofInt (i : Int)) + (Int32.ofInt 2)).toInt.toNat), .int (xs ((Int32.ofInt (i : Int)) + (Int32.ofInt 1)).toInt.toNat), .ref 1] S R Q
        refine w_sld rfl (by first | (rw [← Int32.ofInt_add, q_ofr (by omega) (by omega)]; omega) | (rw [w_nat (by omega)]; omega)) (by first | (rw [← Int32.ofInt_add, q_ofr (by omega) (by omega)]; omega) | (rw [w_nat (by omega)]; omega)) ?_
        show w_T L xs 60 m_L_law 337 [(3, .int (Int32.ofInt (i : Int))), (2, .ref 100), (1, .ref 1), (0, .ref 0)] [.int (xs ((Int32.ofInt (i : Int)) + (Int32.ofInt 3)).toInt.toNat), .int (xs ((Int32.ofInt (i : Int)) + (Int32.ofInt 2)).toInt.toNat), .int (xs ((Int32.ofInt (i : Int)) + (Int32.ofInt 1)).toInt.toNat), .ref 1] S R Q
        refine w_br (P := (xs ((Int32.ofInt (i : Int)) + (Int32.ofInt 3)).toInt.toNat) = 0) rfl (fun _ => rfl) (fun h337 => ?_) (fun h337 => ?_)
        · refine w_st rfl (fun _ => rfl) ?_
          show w_T L xs 60 m_L_law 345 [(3, .int (Int32.ofInt (i : Int))), (2, .ref 100), (1, .ref 1), (0, .ref 0)] [.int (Int32.ofInt 0), .int (xs ((Int32.ofInt (i : Int)) + (Int32.ofInt 2)).toInt.toNat), .int (xs ((Int32.ofInt (i : Int)) + (Int32.ofInt 1)).toInt.toNat), .ref 1] S R Q
          refine w_cv rfl (by decide) mt_X11_habit v_tyC rfl rfl rfl (Nat.le_of_ble_eq_true rfl) (Nat.le_of_ble_eq_true rfl) (Nat.le_of_ble_eq_true rfl) ?_
          show w_T L xs _ m_X11_habit 0 (lv_args 0 [.ref 1, .int (xs ((Int32.ofInt (i : Int)) + (Int32.ofInt 1)).toInt.toNat), .int (xs ((Int32.ofInt (i : Int)) + (Int32.ofInt 2)).toInt.toNat), .int (Int32.ofInt 0)]) [] S R _
          refine w_met (v_met 60 114 rw_141 (List.mem_of_getElem? (i := 0) rfl) (Nat.le_of_ble_eq_true rfl)) (Nat.le_of_ble_eq_true rfl) mt_X11_habit ⟨rfl, ⟨_, rfl, (q_rng _).1, (q_rng _).2⟩, ⟨_, rfl, (q_rng _).1, (q_rng _).2⟩, ⟨_, rfl, by decide, by decide⟩, trivial⟩ hT hO (fun r S1 R1 hT1 hO1 hr hF1 => ?_)
          obtain ⟨u1, hr, -, -⟩ := hr
          subst hr
          have hK1 : S1 0 14 = S1 99 92 := by rw [(hF1 0 14 (by decide +kernel)).1, (hF1 99 92 (by decide +kernel)).1]; exact hK
          refine w_st rfl (fun _ => rfl) ?_
          refine w_st rfl (fun _ => rfl) ?_
          refine w_st rfl (fun _ => rfl) ?_
          refine w_st rfl (fun _ => rfl) ?_
          refine w_st rfl (fun _ => rfl) ?_
          refine w_st rfl (fun _ => rfl) ?_
          show w_T L xs 60 m_L_law 354 [(3, .int (Int32.ofInt (i : Int))), (2, .ref 100), (1, .ref 1), (0, .ref 0)] [.int ((Int32.ofInt (i : Int)) + (Int32.ofInt 1)), .ref 0, .ref 100] S1 R1 Q
          refine w_sld rfl (by first | (rw [← Int32.ofInt_add, q_ofr (by omega) (by omega)]; omega) | (rw [w_nat (by omega)]; omega)) (by first | (rw [← Int32.ofInt_add, q_ofr (by omega) (by omega)]; omega) | (rw [w_nat (by omega)]; omega)) ?_
          refine w_st rfl (fun _ => rfl) ?_
          refine w_st rfl (fun _ => rfl) ?_
          refine w_st rfl (fun _ => rfl) ?_
          refine w_st rfl (fun _ => rfl) ?_
          show w_T L xs 60 m_L_law 359 [(3, .int (Int32.ofInt (i : Int))), (2, .ref 100), (1, .ref 1), (0, .ref 0)] [.int ((Int32.ofInt (i : Int)) + (Int32.ofInt 2)), .ref 0, .int (xs ((Int32.ofInt (i : Int)) + (Int32.ofInt 1)).toInt.toNat), .ref 100] S1 R1 Q
          refine w_sld rfl (by first | (rw [← Int32.ofInt_add, q_ofr (by omega) (by omega)]; omega) | (rw [w_nat (by omega)]; omega)) (by first | (rw [← Int32.ofInt_add, q_ofr (by omega) (by omega)]; omega) | (rw [w_nat (by omega)]; omega)) ?_
          refine w_st rfl (fun _ => rfl) ?_
          refine w_st rfl (fun _ => rfl) ?_
          refine w_st rfl (fun _ => rfl) ?_
          refine w_st rfl (fun _ => rfl) ?_
          show w_T L xs 60 m_L_law 364 [(3, .int (Int32.ofInt (i : Int))), (2, .ref 100), (1, .ref 1), (0, .ref 0)] [.int ((Int32.ofInt (i : Int)) + (Int32.ofInt 3)), .ref 0, .int (xs ((Int32.ofInt (i : Int)) + (Int32.ofInt 2)).toInt.toNat), .int (xs ((Int32.ofInt (i : Int)) + (Int32.ofInt 1)).toInt.toNat), .ref 100] S1 R1 Q
          refine w_sld rfl (by first | (rw [← Int32.ofInt_add, q_ofr (by omega) (by omega)]; omega) | (rw [w_nat (by omega)]; omega)) (by first | (rw [← Int32.ofInt_add, q_ofr (by omega) (by omega)]; omega) | (rw [w_nat (by omega)]; omega)) ?_
          show w_T L xs 60 m_L_law 365 [(3, .int (Int32.ofInt (i : Int))), (2, .ref 100), (1, .ref 1), (0, .ref 0)] [.int (xs ((Int32.ofInt (i : Int)) + (Int32.ofInt 3)).toInt.toNat), .int (xs ((Int32.ofInt (i : Int)) + (Int32.ofInt 2)).toInt.toNat), .int (xs ((Int32.ofInt (i : Int)) + (Int32.ofInt 1)).toInt.toNat), .ref 100] S1 R1 Q
          refine w_br (P := (xs ((Int32.ofInt (i : Int)) + (Int32.ofInt 3)).toInt.toNat) = 0) rfl (fun _ => rfl) (fun h365 => ?_) (fun h365 => ?_)
          · refine w_st rfl (fun _ => rfl) ?_
            show w_T L xs 60 m_L_law 373 [(3, .int (Int32.ofInt (i : Int))), (2, .ref 100), (1, .ref 1), (0, .ref 0)] [.int (Int32.ofInt 0), .int (xs ((Int32.ofInt (i : Int)) + (Int32.ofInt 2)).toInt.toNat), .int (xs ((Int32.ofInt (i : Int)) + (Int32.ofInt 1)).toInt.toNat), .ref 100] S1 R1 Q
            refine w_cv rfl (by decide) mt_X12_habit v_tyM rfl rfl rfl (Nat.le_of_ble_eq_true rfl) (Nat.le_of_ble_eq_true rfl) (Nat.le_of_ble_eq_true rfl) ?_
            show w_T L xs _ m_X12_habit 0 (lv_args 0 [.ref 100, .int (xs ((Int32.ofInt (i : Int)) + (Int32.ofInt 1)).toInt.toNat), .int (xs ((Int32.ofInt (i : Int)) + (Int32.ofInt 2)).toInt.toNat), .int (Int32.ofInt 0)]) [] S1 R1 _
            refine w_met (v_met 60 218 rw_198 (List.mem_of_getElem? (i := 0) rfl) (Nat.le_of_ble_eq_true rfl)) (Nat.le_of_ble_eq_true rfl) mt_X12_habit ⟨rfl, ⟨_, rfl, (q_rng _).1, (q_rng _).2⟩, ⟨_, rfl, (q_rng _).1, (q_rng _).2⟩, ⟨_, rfl, by decide, by decide⟩, trivial⟩ hT1 hO1 (fun r S2 R2 hT2 hO2 hr hF2 => ?_)
            obtain ⟨u2, hr, -, -⟩ := hr
            subst hr
            have hK2 : S2 0 14 = S2 99 92 := by rw [(hF2 0 14 (by decide +kernel)).1, (hF2 99 92 (by decide +kernel)).1]; exact hK1
            refine w_st rfl (fun _ => rfl) ?_
            refine w_st rfl (fun _ => rfl) ?_
            show w_T L xs 60 m_L_law 1446 [(3, .int (Int32.ofInt (i : Int))), (2, .ref 100), (1, .ref 1), (0, .ref 0)] [] S2 R2 Q
            exact tail S2 R2 hT2 hO2 hK2
          · refine w_st rfl (fun _ => rfl) ?_
            refine w_st rfl (fun _ => rfl) ?_
            show w_T L xs 60 m_L_law 373 [(3, .int (Int32.ofInt (i : Int))), (2, .ref 100), (1, .ref 1), (0, .ref 0)] [.int (Int32.ofInt 1), .int (xs ((Int32.ofInt (i : Int)) + (Int32.ofInt 2)).toInt.toNat), .int (xs ((Int32.ofInt (i : Int)) + (Int32.ofInt 1)).toInt.toNat), .ref 100] S1 R1 Q
            refine w_cv rfl (by decide) mt_X12_habit v_tyM rfl rfl rfl (Nat.le_of_ble_eq_true rfl) (Nat.le_of_ble_eq_true rfl) (Nat.le_of_ble_eq_true rfl) ?_
            show w_T L xs _ m_X12_habit 0 (lv_args 0 [.ref 100, .int (xs ((Int32.ofInt (i : Int)) + (Int32.ofInt 1)).toInt.toNat), .int (xs ((Int32.ofInt (i : Int)) + (Int32.ofInt 2)).toInt.toNat), .int (Int32.ofInt 1)]) [] S1 R1 _
            refine w_met (v_met 60 218 rw_198 (List.mem_of_getElem? (i := 0) rfl) (Nat.le_of_ble_eq_true rfl)) (Nat.le_of_ble_eq_true rfl) mt_X12_habit ⟨rfl, ⟨_, rfl, (q_rng _).1, (q_rng _).2⟩, ⟨_, rfl, (q_rng _).1, (q_rng _).2⟩, ⟨_, rfl, by decide, by decide⟩, trivial⟩ hT1 hO1 (fun r S2 R2 hT2 hO2 hr hF2 => ?_)
            obtain ⟨u2, hr, -, -⟩ := hr
            subst hr
            have hK2 : S2 0 14 = S2 99 92 := by rw [(hF2 0 14 (by decide +kernel)).1, (hF2 99 92 (by decide +kernel)).1]; exact hK1
            refine w_st rfl (fun _ => rfl) ?_
            refine w_st rfl (fun _ => rfl) ?_
            show w_T L xs 60 m_L_law 1446 [(3, .int (Int32.ofInt (i : Int))), (2, .ref 100), (1, .ref 1), (0, .ref 0)] [] S2 R2 Q
            exact tail S2 R2 hT2 hO2 hK2
        · refine w_st rfl (fun _ => rfl) ?_
          refine w_st rfl (fun _ => rfl) ?_
          show w_T L xs 60 m_L_law 345 [(3, .int (Int32.ofInt (i : Int))), (2, .ref 100), (1, .ref 1), (0, .ref 0)] [.int (Int32.ofInt 1), .int (xs ((Int32.ofInt (i : Int)) + (Int32.ofInt 2)).toInt.toNat), .int (xs ((Int32.ofInt (i : Int)) + (Int32.ofInt 1)).toInt.toNat), .ref 1] S R Q
          refine w_cv rfl (by decide) mt_X11_habit v_tyC rfl rfl rfl (Nat.le_of_ble_eq_true rfl) (Nat.le_of_ble_eq_true rfl) (Nat.le_of_ble_eq_true rfl) ?_
          show w_T L xs _ m_X11_habit 0 (lv_args 0 [.ref 1, .int (xs ((Int32.ofInt (i : Int)) + (Int32.ofInt 1)).toInt.toNat), .int (xs ((Int32.ofInt (i : Int)) + (Int32.ofInt 2)).toInt.toNat), .int (Int32.ofInt 1)]) [] S R _
          refine w_met (v_met 60 114 rw_141 (List.mem_of_getElem? (i := 0) rfl) (Nat.le_of_ble_eq_true rfl)) (Nat.le_of_ble_eq_true rfl) mt_X11_habit ⟨rfl, ⟨_, rfl, (q_rng _).1, (q_rng _).2⟩, ⟨_, rfl, (q_rng _).1, (q_rng _).2⟩, ⟨_, rfl, by decide, by decide⟩, trivial⟩ hT hO (fun r S1 R1 hT1 hO1 hr hF1 => ?_)
          obtain ⟨u1, hr, -, -⟩ := hr
          subst hr
          have hK1 : S1 0 14 = S1 99 92 := by rw [(hF1 0 14 (by decide +kernel)).1, (hF1 99 92 (by decide +kernel)).1]; exact hK
          refine w_st rfl (fun _ => rfl) ?_
          refine w_st rfl (fun _ => rfl) ?_
          refine w_st rfl (fun _ => rfl) ?_
          refine w_st rfl (fun _ => rfl) ?_
          refine w_st rfl (fun _ => rfl) ?_
          refine w_st rfl (fun _ => rfl) ?_
          show w_T L xs 60 m_L_law 354 [(3, .int (Int32.ofInt (i : Int))), (2, .ref 100), (1, .ref 1), (0, .ref 0)] [.int ((Int32.ofInt (i : Int)) + (Int32.ofInt 1)), .ref 0, .ref 100] S1 R1 Q
          refine w_sld rfl (by first | (rw [← Int32.ofInt_add, q_ofr (by omega) (by omega)]; omega) | (rw [w_nat (by omega)]; omega)) (by first | (rw [← Int32.ofInt_add, q_ofr (by omega) (by omega)]; omega) | (rw [w_nat (by omega)]; omega)) ?_
          refine w_st rfl (fun _ => rfl) ?_
          refine w_st rfl (fun _ => rfl) ?_
          refine w_st rfl (fun _ => rfl) ?_
          refine w_st rfl (fun _ => rfl) ?_
          show w_T L xs 60 m_L_law 359 [(3, .int (Int32.ofInt (i : Int))), (2, .ref 100), (1, .ref 1), (0, .ref 0)] [.int ((Int32.ofInt (i : Int)) + (Int32.ofInt 2)), .ref 0, .int (xs ((Int32.ofInt (i : Int)) + (Int32.ofInt 1)).toInt.toNat), .ref 100] S1 R1 Q
          refine w_sld rfl (by first | (rw [← Int32.ofInt_add, q_ofr (by omega) (by omega)]; omega) | (rw [w_nat (by omega)]; omega)) (by first | (rw [← Int32.ofInt_add, q_ofr (by omega) (by omega)]; omega) | (rw [w_nat (by omega)]; omega)) ?_
          refine w_st rfl (fun _ => rfl) ?_
          refine w_st rfl (fun _ => rfl) ?_
          refine w_st rfl (fun _ => rfl) ?_
          refine w_st rfl (fun _ => rfl) ?_
          show w_T L xs 60 m_L_law 364 [(3, .int (Int32.ofInt (i : Int))), (2, .ref 100), (1, .ref 1), (0, .ref 0)] [.int ((Int32.ofInt (i : Int)) + (Int32.ofInt 3)), .ref 0, .int (xs ((Int32.ofInt (i : Int)) + (Int32.ofInt 2)).toInt.toNat), .int (xs ((Int32.ofInt (i : Int)) + (Int32.ofInt 1)).toInt.toNat), .ref 100] S1 R1 Q
          refine w_sld rfl (by first | (rw [← Int32.ofInt_add, q_ofr (by omega) (by omega)]; omega) | (rw [w_nat (by omega)]; omega)) (by first | (rw [← Int32.ofInt_add, q_ofr (by omega) (by omega)]; omega) | (rw [w_nat (by omega)]; omega)) ?_
          show w_T L xs 60 m_L_law 365 [(3, .int (Int32.ofInt (i : Int))), (2, .ref 100), (1, .ref 1), (0, .ref 0)] [.int (xs ((Int32.ofInt (i : Int)) + (Int32.ofInt 3)).toInt.toNat), .int (xs ((Int32.ofInt (i : Int)) + (Int32.ofInt 2)).toInt.toNat), .int (xs ((Int32.ofInt (i : Int)) + (Int32.ofInt 1)).toInt.toNat), .ref 100] S1 R1 Q
          refine w_br (P := (xs ((Int32.ofInt (i : Int)) + (Int32.ofInt 3)).toInt.toNat) = 0) rfl (fun _ => rfl) (fun h365 => ?_) (fun h365 => ?_)
          · refine w_st rfl (fun _ => rfl) ?_
            show w_T L xs 60 m_L_law 373 [(3, .int (Int32.ofInt (i : Int))), (2, .ref 100), (1, .ref 1), (0, .ref 0)] [.int (Int32.ofInt 0), .int (xs ((Int32.ofInt (i : Int)) + (Int32.ofInt 2)).toInt.toNat), .int (xs ((Int32.ofInt (i : Int)) + (Int32.ofInt 1)).toInt.toNat), .ref 100] S1 R1 Q
            refine w_cv rfl (by decide) mt_X12_habit v_tyM rfl rfl rfl (Nat.le_of_ble_eq_true rfl) (Nat.le_of_ble_eq_true rfl) (Nat.le_of_ble_eq_true rfl) ?_
            show w_T L xs _ m_X12_habit 0 (lv_args 0 [.ref 100, .int (xs ((Int32.ofInt (i : Int)) + (Int32.ofInt 1)).toInt.toNat), .int (xs ((Int32.ofInt (i : Int)) + (Int32.ofInt 2)).toInt.toNat), .int (Int32.ofInt 0)]) [] S1 R1 _
            refine w_met (v_met 60 218 rw_198 (List.mem_of_getElem? (i := 0) rfl) (Nat.le_of_ble_eq_true rfl)) (Nat.le_of_ble_eq_true rfl) mt_X12_habit ⟨rfl, ⟨_, rfl, (q_rng _).1, (q_rng _).2⟩, ⟨_, rfl, (q_rng _).1, (q_rng _).2⟩, ⟨_, rfl, by decide, by decide⟩, trivial⟩ hT1 hO1 (fun r S2 R2 hT2 hO2 hr hF2 => ?_)
            obtain ⟨u2, hr, -, -⟩ := hr
            subst hr
            have hK2 : S2 0 14 = S2 99 92 := by rw [(hF2 0 14 (by decide +kernel)).1, (hF2 99 92 (by decide +kernel)).1]; exact hK1
            refine w_st rfl (fun _ => rfl) ?_
            refine w_st rfl (fun _ => rfl) ?_
            show w_T L xs 60 m_L_law 1446 [(3, .int (Int32.ofInt (i : Int))), (2, .ref 100), (1, .ref 1), (0, .ref 0)] [] S2 R2 Q
            exact tail S2 R2 hT2 hO2 hK2
          · refine w_st rfl (fun _ => rfl) ?_
            refine w_st rfl (fun _ => rfl) ?_
            show w_T L xs 60 m_L_law 373 [(3, .int (Int32.ofInt (i : Int))), (2, .ref 100), (1, .ref 1), (0, .ref 0)] [.int (Int32.ofInt 1), .int (xs ((Int32.ofInt (i : Int)) + (Int32.ofInt 2)).toInt.toNat), .int (xs ((Int32.ofInt (i : Int)) + (Int32.ofInt 1)).toInt.toNat), .ref 100] S1 R1 Q
            refine w_cv rfl (by decide) mt_X12_habit v_tyM rfl rfl rfl (Nat.le_of_ble_eq_true rfl) (Nat.le_of_ble_eq_true rfl) (Nat.le_of_ble_eq_true rfl) ?_
            show w_T L xs _ m_X12_habit 0 (lv_args 0 [.ref 100, .int (xs ((Int32.ofInt (i : Int)) + (Int32.ofInt 1)).toInt.toNat), .int (xs ((Int32.ofInt (i : Int)) + (Int32.ofInt 2)).toInt.toNat), .int (Int32.ofInt 1)]) [] S1 R1 _
            refine w_met (v_met 60 218 rw_198 (List.mem_of_getElem? (i := 0) rfl) (Nat.le_of_ble_eq_true rfl)) (Nat.le_of_ble_eq_true rfl) mt_X12_habit ⟨rfl, ⟨_, rfl, (q_rng _).1, (q_rng _).2⟩, ⟨_, rfl, (q_rng _).1, (q_rng _).2⟩, ⟨_, rfl, by decide, by decide⟩, trivial⟩ hT1 hO1 (fun r S2 R2 hT2 hO2 hr hF2 => ?_)
            obtain ⟨u2, hr, -, -⟩ := hr
            subst hr
            have hK2 : S2 0 14 = S2 99 92 := by rw [(hF2 0 14 (by decide +kernel)).1, (hF2 99 92 (by decide +kernel)).1]; exact hK1
            refine w_st rfl (fun _ => rfl) ?_
            refine w_st rfl (fun _ => rfl) ?_
            show w_T L xs 60 m_L_law 1446 [(3, .int (Int32.ofInt (i : Int))), (2, .ref 100), (1, .ref 1), (0, .ref 0)] [] S2 R2 Q
            exact tail S2 R2 hT2 hO2 hK2
      | 4, hk =>
        obtain rfl : (347 : Int) = o := Option.some.inj hk
        refine ⟨380, by decide, ?_⟩
        refine w_st rfl (fun _ => rfl) ?_
        refine w_st rfl (fun _ => rfl) ?_
        refine w_st rfl (fun _ => rfl) ?_
        refine w_st rfl (fun _ => rfl) ?_
        refine w_st rfl (fun _ => rfl) ?_
        show w_T L xs 60 m_L_law 385 [(3, .int (Int32.ofInt (i : Int))), (2, .ref 100), (1, .ref 1), (0, .ref 0)] [.int ((Int32.ofInt (i : Int)) + (Int32.ofInt 1)), .ref 0, .ref 1] S R Q
        refine w_sld rfl (by first | (rw [← Int32.ofInt_add, q_ofr (by omega) (by omega)]; omega) | (rw [w_nat (by omega)]; omega)) (by first | (rw [← Int32.ofInt_add, q_ofr (by omega) (by omega)]; omega) | (rw [w_nat (by omega)]; omega)) ?_
        refine w_st rfl (fun _ => rfl) ?_
        refine w_st rfl (fun _ => rfl) ?_
        refine w_st rfl (fun _ => rfl) ?_
        refine w_st rfl (fun _ => rfl) ?_
        show w_T L xs 60 m_L_law 390 [(3, .int (Int32.ofInt (i : Int))), (2, .ref 100), (1, .ref 1), (0, .ref 0)] [.int ((Int32.ofInt (i : Int)) + (Int32.ofInt 2)), .ref 0, .int (xs ((Int32.ofInt (i : Int)) + (Int32.ofInt 1)).toInt.toNat), .ref 1] S R Q
        refine w_sld rfl (by first | (rw [← Int32.ofInt_add, q_ofr (by omega) (by omega)]; omega) | (rw [w_nat (by omega)]; omega)) (by first | (rw [← Int32.ofInt_add, q_ofr (by omega) (by omega)]; omega) | (rw [w_nat (by omega)]; omega)) ?_
        refine w_st rfl (fun _ => rfl) ?_
        refine w_st rfl (fun _ => rfl) ?_
        refine w_st rfl (fun _ => rfl) ?_
        refine w_st rfl (fun _ => rfl) ?_
        show w_T L xs 60 m_L_law 395 [(3, .int (Int32.ofInt (i : Int))), (2, .ref 100), (1, .ref 1), (0, .ref 0)] [.int ((Int32.ofInt (i : Int)) + (Int32.ofInt 3)), .ref 0, .int (xs ((Int32.ofInt (i : Int)) + (Int32.ofInt 2)).toInt.toNat), .int (xs ((Int32.ofInt (i : Int)) + (Int32.ofInt 1)).toInt.toNat), .ref 1] S R Q
        refine w_sld rfl (by first | (rw [← Int32.ofInt_add, q_ofr (by omega) (by omega)]; omega) | (rw [w_nat (by omega)]; omega)) (by first | (rw [← Int32.ofInt_add, q_ofr (by omega) (by omega)]; omega) | (rw [w_nat (by omega)]; omega)) ?_
        refine w_st rfl (fun _ => rfl) ?_
        refine w_st rfl (fun _ => rfl) ?_
        refine w_st rfl (fun _ => rfl) ?_
        refine w_st rfl (fun _ => rfl) ?_
        show w_T L xs 60 m_L_law 400 [(3, .int (Int32.ofInt (i : Int))), (2, .ref 100), (1, .ref 1), (0, .ref 0)] [.int ((Int32.ofInt (i : Int)) + (Int32.ofInt 4)), .ref 0, .int (xs ((Int32.ofInt (i : Int)) + (Int32.ofInt 3)).toInt.toNat), .int (xs ((Int32.ofInt (i : Int)) + (Int32.ofInt 2)).toInt.toNat), .int (xs ((Int32.ofInt (i : Int)) + (Int32.ofInt 1)).toInt.toNat), .ref 1] S R Q
        refine w_sld rfl (by first | (rw [← Int32.ofInt_add, q_ofr (by omega) (by omega)]; omega) | (rw [w_nat (by omega)]; omega)) (by first | (rw [← Int32.ofInt_add, q_ofr (by omega) (by omega)]; omega) | (rw [w_nat (by omega)]; omega)) ?_
        show w_T L xs 60 m_L_law 401 [(3, .int (Int32.ofInt (i : Int))), (2, .ref 100), (1, .ref 1), (0, .ref 0)] [.int (xs ((Int32.ofInt (i : Int)) + (Int32.ofInt 4)).toInt.toNat), .int (xs ((Int32.ofInt (i : Int)) + (Int32.ofInt 3)).toInt.toNat), .int (xs ((Int32.ofInt (i : Int)) + (Int32.ofInt 2)).toInt.toNat), .int (xs ((Int32.ofInt (i : Int)) + (Int32.ofInt 1)).toInt.toNat), .ref 1] S R Q
        refine w_cv rfl (by decide) mt_X11_ward v_tyC rfl rfl rfl (Nat.le_of_ble_eq_true rfl) (Nat.le_of_ble_eq_true rfl) (Nat.le_of_ble_eq_true rfl) ?_
        show w_T L xs _ m_X11_ward 0 (lv_args 0 [.ref 1, .int (xs ((Int32.ofInt (i : Int)) + (Int32.ofInt 1)).toInt.toNat), .int (xs ((Int32.ofInt (i : Int)) + (Int32.ofInt 2)).toInt.toNat), .int (xs ((Int32.ofInt (i : Int)) + (Int32.ofInt 3)).toInt.toNat), .int (xs ((Int32.ofInt (i : Int)) + (Int32.ofInt 4)).toInt.toNat)]) [] S R _
        refine w_met (v_met 60 115 rw_142 (List.mem_of_getElem? (i := 0) rfl) (Nat.le_of_ble_eq_true rfl)) (Nat.le_of_ble_eq_true rfl) mt_X11_ward ⟨rfl, ⟨_, rfl, (q_rng _).1, (q_rng _).2⟩, ⟨_, rfl, (q_rng _).1, (q_rng _).2⟩, ⟨_, rfl, (q_rng _).1, (q_rng _).2⟩, ⟨_, rfl, (q_rng _).1, (q_rng _).2⟩, trivial⟩ hT hO (fun r S1 R1 hT1 hO1 hr hF1 => ?_)
        obtain ⟨u1, hr, -, -⟩ := hr
        subst hr
        have hK1 : S1 0 14 = S1 99 92 := by rw [(hF1 0 14 (by decide +kernel)).1, (hF1 99 92 (by decide +kernel)).1]; exact hK
        refine w_st rfl (fun _ => rfl) ?_
        refine w_st rfl (fun _ => rfl) ?_
        refine w_st rfl (fun _ => rfl) ?_
        refine w_st rfl (fun _ => rfl) ?_
        refine w_st rfl (fun _ => rfl) ?_
        refine w_st rfl (fun _ => rfl) ?_
        show w_T L xs 60 m_L_law 410 [(3, .int (Int32.ofInt (i : Int))), (2, .ref 100), (1, .ref 1), (0, .ref 0)] [.int ((Int32.ofInt (i : Int)) + (Int32.ofInt 1)), .ref 0, .ref 100] S1 R1 Q
        refine w_sld rfl (by first | (rw [← Int32.ofInt_add, q_ofr (by omega) (by omega)]; omega) | (rw [w_nat (by omega)]; omega)) (by first | (rw [← Int32.ofInt_add, q_ofr (by omega) (by omega)]; omega) | (rw [w_nat (by omega)]; omega)) ?_
        refine w_st rfl (fun _ => rfl) ?_
        refine w_st rfl (fun _ => rfl) ?_
        refine w_st rfl (fun _ => rfl) ?_
        refine w_st rfl (fun _ => rfl) ?_
        show w_T L xs 60 m_L_law 415 [(3, .int (Int32.ofInt (i : Int))), (2, .ref 100), (1, .ref 1), (0, .ref 0)] [.int ((Int32.ofInt (i : Int)) + (Int32.ofInt 2)), .ref 0, .int (xs ((Int32.ofInt (i : Int)) + (Int32.ofInt 1)).toInt.toNat), .ref 100] S1 R1 Q
        refine w_sld rfl (by first | (rw [← Int32.ofInt_add, q_ofr (by omega) (by omega)]; omega) | (rw [w_nat (by omega)]; omega)) (by first | (rw [← Int32.ofInt_add, q_ofr (by omega) (by omega)]; omega) | (rw [w_nat (by omega)]; omega)) ?_
        refine w_st rfl (fun _ => rfl) ?_
        refine w_st rfl (fun _ => rfl) ?_
        refine w_st rfl (fun _ => rfl) ?_
        refine w_st rfl (fun _ => rfl) ?_
        show w_T L xs 60 m_L_law 420 [(3, .int (Int32.ofInt (i : Int))), (2, .ref 100), (1, .ref 1), (0, .ref 0)] [.int ((Int32.ofInt (i : Int)) + (Int32.ofInt 3)), .ref 0, .int (xs ((Int32.ofInt (i : Int)) + (Int32.ofInt 2)).toInt.toNat), .int (xs ((Int32.ofInt (i : Int)) + (Int32.ofInt 1)).toInt.toNat), .ref 100] S1 R1 Q
        refine w_sld rfl (by first | (rw [← Int32.ofInt_add, q_ofr (by omega) (by omega)]; omega) | (rw [w_nat (by omega)]; omega)) (by first | (rw [← Int32.ofInt_add, q_ofr (by omega) (by omega)]; omega) | (rw [w_nat (by omega)]; omega)) ?_
        refine w_st rfl (fun _ => rfl) ?_
        refine w_st rfl (fun _ => rfl) ?_
        refine w_st rfl (fun _ => rfl) ?_
        refine w_st rfl (fun _ => rfl) ?_
        show w_T L xs 60 m_L_law 425 [(3, .int (Int32.ofInt (i : Int))), (2, .ref 100), (1, .ref 1), (0, .ref 0)] [.int ((Int32.ofInt (i : Int)) + (Int32.ofInt 4)), .ref 0, .int (xs ((Int32.ofInt (i : Int)) + (Int32.ofInt 3)).toInt.toNat), .int (xs ((Int32.ofInt (i : Int)) + (Int32.ofInt 2)).toInt.toNat), .int (xs ((Int32.ofInt (i : Int)) + (Int32.ofInt 1)).toInt.toNat), .ref 100] S1 R1 Q
        refine w_sld rfl (by first | (rw [← Int32.ofInt_add, q_ofr (by omega) (by omega)]; omega) | (rw [w_nat (by omega)]; omega)) (by first | (rw [← Int32.ofInt_add, q_ofr (by omega) (by omega)]; omega) | (rw [w_nat (by omega)]; omega)) ?_
        show w_T L xs 60 m_L_law 426 [(3, .int (Int32.ofInt (i : Int))), (2, .ref 100), (1, .ref 1), (0, .ref 0)] [.int (xs ((Int32.ofInt (i : Int)) + (Int32.ofInt 4)).toInt.toNat), .int (xs ((Int32.ofInt (i : Int)) + (Int32.ofInt 3)).toInt.toNat), .int (xs ((Int32.ofInt (i : Int)) + (Int32.ofInt 2)).toInt.toNat), .int (xs ((Int32.ofInt (i : Int)) + (Int32.ofInt 1)).toInt.toNat), .ref 100] S1 R1 Q
        refine w_cv rfl (by decide) mt_X12_ward v_tyM rfl rfl rfl (Nat.le_of_ble_eq_true rfl) (Nat.le_of_ble_eq_true rfl) (Nat.le_of_ble_eq_true rfl) ?_
        show w_T L xs _ m_X12_ward 0 (lv_args 0 [.ref 100, .int (xs ((Int32.ofInt (i : Int)) + (Int32.ofInt 1)).toInt.toNat), .int (xs ((Int32.ofInt (i : Int)) + (Int32.ofInt 2)).toInt.toNat), .int (xs ((Int32.ofInt (i : Int)) + (Int32.ofInt 3)).toInt.toNat), .int (xs ((Int32.ofInt (i : Int)) + (Int32.ofInt 4)).toInt.toNat)]) [] S1 R1 _
        refine w_met (v_met 60 219 rw_199 (List.mem_of_getElem? (i := 0) rfl) (Nat.le_of_ble_eq_true rfl)) (Nat.le_of_ble_eq_true rfl) mt_X12_ward ⟨rfl, ⟨_, rfl, (q_rng _).1, (q_rng _).2⟩, ⟨_, rfl, (q_rng _).1, (q_rng _).2⟩, ⟨_, rfl, (q_rng _).1, (q_rng _).2⟩, ⟨_, rfl, (q_rng _).1, (q_rng _).2⟩, trivial⟩ hT1 hO1 (fun r S2 R2 hT2 hO2 hr hF2 => ?_)
        obtain ⟨u2, hr, -, -⟩ := hr
        subst hr
        have hK2 : S2 0 14 = S2 99 92 := by rw [(hF2 0 14 (by decide +kernel)).1, (hF2 99 92 (by decide +kernel)).1]; exact hK1
        refine w_st rfl (fun _ => rfl) ?_
        refine w_st rfl (fun _ => rfl) ?_
        show w_T L xs 60 m_L_law 1446 [(3, .int (Int32.ofInt (i : Int))), (2, .ref 100), (1, .ref 1), (0, .ref 0)] [] S2 R2 Q
        exact tail S2 R2 hT2 hO2 hK2
      | 5, hk =>
        obtain rfl : (400 : Int) = o := Option.some.inj hk
        refine ⟨433, by decide, ?_⟩
        refine w_st rfl (fun _ => rfl) ?_
        refine w_st rfl (fun _ => rfl) ?_
        refine w_st rfl (fun _ => rfl) ?_
        refine w_st rfl (fun _ => rfl) ?_
        refine w_st rfl (fun _ => rfl) ?_
        show w_T L xs 60 m_L_law 438 [(3, .int (Int32.ofInt (i : Int))), (2, .ref 100), (1, .ref 1), (0, .ref 0)] [.int ((Int32.ofInt (i : Int)) + (Int32.ofInt 1)), .ref 0, .ref 1] S R Q
        refine w_sld rfl (by first | (rw [← Int32.ofInt_add, q_ofr (by omega) (by omega)]; omega) | (rw [w_nat (by omega)]; omega)) (by first | (rw [← Int32.ofInt_add, q_ofr (by omega) (by omega)]; omega) | (rw [w_nat (by omega)]; omega)) ?_
        refine w_st rfl (fun _ => rfl) ?_
        refine w_st rfl (fun _ => rfl) ?_
        refine w_st rfl (fun _ => rfl) ?_
        refine w_st rfl (fun _ => rfl) ?_
        show w_T L xs 60 m_L_law 443 [(3, .int (Int32.ofInt (i : Int))), (2, .ref 100), (1, .ref 1), (0, .ref 0)] [.int ((Int32.ofInt (i : Int)) + (Int32.ofInt 2)), .ref 0, .int (xs ((Int32.ofInt (i : Int)) + (Int32.ofInt 1)).toInt.toNat), .ref 1] S R Q
        refine w_sld rfl (by first | (rw [← Int32.ofInt_add, q_ofr (by omega) (by omega)]; omega) | (rw [w_nat (by omega)]; omega)) (by first | (rw [← Int32.ofInt_add, q_ofr (by omega) (by omega)]; omega) | (rw [w_nat (by omega)]; omega)) ?_
        show w_T L xs 60 m_L_law 444 [(3, .int (Int32.ofInt (i : Int))), (2, .ref 100), (1, .ref 1), (0, .ref 0)] [.int (xs ((Int32.ofInt (i : Int)) + (Int32.ofInt 2)).toInt.toNat), .int (xs ((Int32.ofInt (i : Int)) + (Int32.ofInt 1)).toInt.toNat), .ref 1] S R Q
        refine w_cv rfl (by decide) mt_X11_nurse v_tyC rfl rfl rfl (Nat.le_of_ble_eq_true rfl) (Nat.le_of_ble_eq_true rfl) (Nat.le_of_ble_eq_true rfl) ?_
        show w_T L xs _ m_X11_nurse 0 (lv_args 0 [.ref 1, .int (xs ((Int32.ofInt (i : Int)) + (Int32.ofInt 1)).toInt.toNat), .int (xs ((Int32.ofInt (i : Int)) + (Int32.ofInt 2)).toInt.toNat)]) [] S R _
        refine w_met (v_met 60 116 rw_143 (List.mem_of_getElem? (i := 0) rfl) (Nat.le_of_ble_eq_true rfl)) (Nat.le_of_ble_eq_true rfl) mt_X11_nurse ⟨rfl, ⟨_, rfl, (q_rng _).1, (q_rng _).2⟩, ⟨_, rfl, (q_rng _).1, (q_rng _).2⟩, trivial⟩ hT hO (fun r S1 R1 hT1 hO1 hr hF1 => ?_)
        obtain ⟨u1, hr, -, -⟩ := hr
        subst hr
        have hK1 : S1 0 14 = S1 99 92 := by rw [(hF1 0 14 (by decide +kernel)).1, (hF1 99 92 (by decide +kernel)).1]; exact hK
        refine w_st rfl (fun _ => rfl) ?_
        refine w_st rfl (fun _ => rfl) ?_
        refine w_st rfl (fun _ => rfl) ?_
        refine w_st rfl (fun _ => rfl) ?_
        refine w_st rfl (fun _ => rfl) ?_
        refine w_st rfl (fun _ => rfl) ?_
        show w_T L xs 60 m_L_law 453 [(3, .int (Int32.ofInt (i : Int))), (2, .ref 100), (1, .ref 1), (0, .ref 0)] [.int ((Int32.ofInt (i : Int)) + (Int32.ofInt 1)), .ref 0, .ref 100] S1 R1 Q
        refine w_sld rfl (by first | (rw [← Int32.ofInt_add, q_ofr (by omega) (by omega)]; omega) | (rw [w_nat (by omega)]; omega)) (by first | (rw [← Int32.ofInt_add, q_ofr (by omega) (by omega)]; omega) | (rw [w_nat (by omega)]; omega)) ?_
        refine w_st rfl (fun _ => rfl) ?_
        refine w_st rfl (fun _ => rfl) ?_
        refine w_st rfl (fun _ => rfl) ?_
        refine w_st rfl (fun _ => rfl) ?_
        show w_T L xs 60 m_L_law 458 [(3, .int (Int32.ofInt (i : Int))), (2, .ref 100), (1, .ref 1), (0, .ref 0)] [.int ((Int32.ofInt (i : Int)) + (Int32.ofInt 2)), .ref 0, .int (xs ((Int32.ofInt (i : Int)) + (Int32.ofInt 1)).toInt.toNat), .ref 100] S1 R1 Q
        refine w_sld rfl (by first | (rw [← Int32.ofInt_add, q_ofr (by omega) (by omega)]; omega) | (rw [w_nat (by omega)]; omega)) (by first | (rw [← Int32.ofInt_add, q_ofr (by omega) (by omega)]; omega) | (rw [w_nat (by omega)]; omega)) ?_
        show w_T L xs 60 m_L_law 459 [(3, .int (Int32.ofInt (i : Int))), (2, .ref 100), (1, .ref 1), (0, .ref 0)] [.int (xs ((Int32.ofInt (i : Int)) + (Int32.ofInt 2)).toInt.toNat), .int (xs ((Int32.ofInt (i : Int)) + (Int32.ofInt 1)).toInt.toNat), .ref 100] S1 R1 Q
        refine w_cv rfl (by decide) mt_X12_nurse v_tyM rfl rfl rfl (Nat.le_of_ble_eq_true rfl) (Nat.le_of_ble_eq_true rfl) (Nat.le_of_ble_eq_true rfl) ?_
        show w_T L xs _ m_X12_nurse 0 (lv_args 0 [.ref 100, .int (xs ((Int32.ofInt (i : Int)) + (Int32.ofInt 1)).toInt.toNat), .int (xs ((Int32.ofInt (i : Int)) + (Int32.ofInt 2)).toInt.toNat)]) [] S1 R1 _
        refine w_met (v_met 60 220 rw_200 (List.mem_of_getElem? (i := 0) rfl) (Nat.le_of_ble_eq_true rfl)) (Nat.le_of_ble_eq_true rfl) mt_X12_nurse ⟨rfl, ⟨_, rfl, (q_rng _).1, (q_rng _).2⟩, ⟨_, rfl, (q_rng _).1, (q_rng _).2⟩, trivial⟩ hT1 hO1 (fun r S2 R2 hT2 hO2 hr hF2 => ?_)
        obtain ⟨u2, hr, -, -⟩ := hr
        subst hr
        have hK2 : S2 0 14 = S2 99 92 := by rw [(hF2 0 14 (by decide +kernel)).1, (hF2 99 92 (by decide +kernel)).1]; exact hK1
        refine w_st rfl (fun _ => rfl) ?_
        refine w_st rfl (fun _ => rfl) ?_
        show w_T L xs 60 m_L_law 1446 [(3, .int (Int32.ofInt (i : Int))), (2, .ref 100), (1, .ref 1), (0, .ref 0)] [] S2 R2 Q
        exact tail S2 R2 hT2 hO2 hK2
      | 6, hk =>
        obtain rfl : (433 : Int) = o := Option.some.inj hk
        refine ⟨466, by decide, ?_⟩
        refine w_st rfl (fun _ => rfl) ?_
        refine w_st rfl (fun _ => rfl) ?_
        refine w_st rfl (fun _ => rfl) ?_
        refine w_st rfl (fun _ => rfl) ?_
        refine w_st rfl (fun _ => rfl) ?_
        show w_T L xs 60 m_L_law 471 [(3, .int (Int32.ofInt (i : Int))), (2, .ref 100), (1, .ref 1), (0, .ref 0)] [.int ((Int32.ofInt (i : Int)) + (Int32.ofInt 1)), .ref 0, .ref 1] S R Q
        refine w_sld rfl (by first | (rw [← Int32.ofInt_add, q_ofr (by omega) (by omega)]; omega) | (rw [w_nat (by omega)]; omega)) (by first | (rw [← Int32.ofInt_add, q_ofr (by omega) (by omega)]; omega) | (rw [w_nat (by omega)]; omega)) ?_
        refine w_st rfl (fun _ => rfl) ?_
        refine w_st rfl (fun _ => rfl) ?_
        refine w_st rfl (fun _ => rfl) ?_
        refine w_st rfl (fun _ => rfl) ?_
        show w_T L xs 60 m_L_law 476 [(3, .int (Int32.ofInt (i : Int))), (2, .ref 100), (1, .ref 1), (0, .ref 0)] [.int ((Int32.ofInt (i : Int)) + (Int32.ofInt 2)), .ref 0, .int (xs ((Int32.ofInt (i : Int)) + (Int32.ofInt 1)).toInt.toNat), .ref 1] S R Q
        refine w_sld rfl (by first | (rw [← Int32.ofInt_add, q_ofr (by omega) (by omega)]; omega) | (rw [w_nat (by omega)]; omega)) (by first | (rw [← Int32.ofInt_add, q_ofr (by omega) (by omega)]; omega) | (rw [w_nat (by omega)]; omega)) ?_
        show w_T L xs 60 m_L_law 477 [(3, .int (Int32.ofInt (i : Int))), (2, .ref 100), (1, .ref 1), (0, .ref 0)] [.int (xs ((Int32.ofInt (i : Int)) + (Int32.ofInt 2)).toInt.toNat), .int (xs ((Int32.ofInt (i : Int)) + (Int32.ofInt 1)).toInt.toNat), .ref 1] S R Q
        refine w_cv rfl (by decide) mt_X11_needs v_tyC rfl rfl rfl (Nat.le_of_ble_eq_true rfl) (Nat.le_of_ble_eq_true rfl) (Nat.le_of_ble_eq_true rfl) ?_
        show w_T L xs _ m_X11_needs 0 (lv_args 0 [.ref 1, .int (xs ((Int32.ofInt (i : Int)) + (Int32.ofInt 1)).toInt.toNat), .int (xs ((Int32.ofInt (i : Int)) + (Int32.ofInt 2)).toInt.toNat)]) [] S R _
        refine w_met (v_met 60 117 rw_144 (List.mem_of_getElem? (i := 0) rfl) (Nat.le_of_ble_eq_true rfl)) (Nat.le_of_ble_eq_true rfl) mt_X11_needs ⟨rfl, ⟨_, rfl, (q_rng _).1, (q_rng _).2⟩, ⟨_, rfl, (q_rng _).1, (q_rng _).2⟩, trivial⟩ hT hO (fun r S1 R1 hT1 hO1 hr hF1 => ?_)
        obtain ⟨u1, hr, -, -⟩ := hr
        subst hr
        have hK1 : S1 0 14 = S1 99 92 := by rw [(hF1 0 14 (by decide +kernel)).1, (hF1 99 92 (by decide +kernel)).1]; exact hK
        refine w_st rfl (fun _ => rfl) ?_
        refine w_st rfl (fun _ => rfl) ?_
        refine w_st rfl (fun _ => rfl) ?_
        refine w_st rfl (fun _ => rfl) ?_
        refine w_st rfl (fun _ => rfl) ?_
        refine w_st rfl (fun _ => rfl) ?_
        show w_T L xs 60 m_L_law 486 [(3, .int (Int32.ofInt (i : Int))), (2, .ref 100), (1, .ref 1), (0, .ref 0)] [.int ((Int32.ofInt (i : Int)) + (Int32.ofInt 1)), .ref 0, .ref 100] S1 R1 Q
        refine w_sld rfl (by first | (rw [← Int32.ofInt_add, q_ofr (by omega) (by omega)]; omega) | (rw [w_nat (by omega)]; omega)) (by first | (rw [← Int32.ofInt_add, q_ofr (by omega) (by omega)]; omega) | (rw [w_nat (by omega)]; omega)) ?_
        refine w_st rfl (fun _ => rfl) ?_
        refine w_st rfl (fun _ => rfl) ?_
        refine w_st rfl (fun _ => rfl) ?_
        refine w_st rfl (fun _ => rfl) ?_
        show w_T L xs 60 m_L_law 491 [(3, .int (Int32.ofInt (i : Int))), (2, .ref 100), (1, .ref 1), (0, .ref 0)] [.int ((Int32.ofInt (i : Int)) + (Int32.ofInt 2)), .ref 0, .int (xs ((Int32.ofInt (i : Int)) + (Int32.ofInt 1)).toInt.toNat), .ref 100] S1 R1 Q
        refine w_sld rfl (by first | (rw [← Int32.ofInt_add, q_ofr (by omega) (by omega)]; omega) | (rw [w_nat (by omega)]; omega)) (by first | (rw [← Int32.ofInt_add, q_ofr (by omega) (by omega)]; omega) | (rw [w_nat (by omega)]; omega)) ?_
        show w_T L xs 60 m_L_law 492 [(3, .int (Int32.ofInt (i : Int))), (2, .ref 100), (1, .ref 1), (0, .ref 0)] [.int (xs ((Int32.ofInt (i : Int)) + (Int32.ofInt 2)).toInt.toNat), .int (xs ((Int32.ofInt (i : Int)) + (Int32.ofInt 1)).toInt.toNat), .ref 100] S1 R1 Q
        refine w_cv rfl (by decide) mt_X12_needs v_tyM rfl rfl rfl (Nat.le_of_ble_eq_true rfl) (Nat.le_of_ble_eq_true rfl) (Nat.le_of_ble_eq_true rfl) ?_
        show w_T L xs _ m_X12_needs 0 (lv_args 0 [.ref 100, .int (xs ((Int32.ofInt (i : Int)) + (Int32.ofInt 1)).toInt.toNat), .int (xs ((Int32.ofInt (i : Int)) + (Int32.ofInt 2)).toInt.toNat)]) [] S1 R1 _
        refine w_met (v_met 60 221 rw_201 (List.mem_of_getElem? (i := 0) rfl) (Nat.le_of_ble_eq_true rfl)) (Nat.le_of_ble_eq_true rfl) mt_X12_needs ⟨rfl, ⟨_, rfl, (q_rng _).1, (q_rng _).2⟩, ⟨_, rfl, (q_rng _).1, (q_rng _).2⟩, trivial⟩ hT1 hO1 (fun r S2 R2 hT2 hO2 hr hF2 => ?_)
        obtain ⟨u2, hr, -, -⟩ := hr
        subst hr
        have hK2 : S2 0 14 = S2 99 92 := by rw [(hF2 0 14 (by decide +kernel)).1, (hF2 99 92 (by decide +kernel)).1]; exact hK1
        refine w_st rfl (fun _ => rfl) ?_
        refine w_st rfl (fun _ => rfl) ?_
        show w_T L xs 60 m_L_law 1446 [(3, .int (Int32.ofInt (i : Int))), (2, .ref 100), (1, .ref 1), (0, .ref 0)] [] S2 R2 Q
        exact tail S2 R2 hT2 hO2 hK2
      | 7, hk =>
        obtain rfl : (466 : Int) = o := Option.some.inj hk
        refine ⟨499, by decide, ?_⟩
        refine w_st rfl (fun _ => rfl) ?_
        refine w_st rfl (fun _ => rfl) ?_
        refine w_st rfl (fun _ => rfl) ?_
        refine w_st rfl (fun _ => rfl) ?_
        refine w_st rfl (fun _ => rfl) ?_
        show w_T L xs 60 m_L_law 504 [(3, .int (Int32.ofInt (i : Int))), (2, .ref 100), (1, .ref 1), (0, .ref 0)] [.int ((Int32.ofInt (i : Int)) + (Int32.ofInt 1)), .ref 0, .ref 1] S R Q
        refine w_sld rfl (by first | (rw [← Int32.ofInt_add, q_ofr (by omega) (by omega)]; omega) | (rw [w_nat (by omega)]; omega)) (by first | (rw [← Int32.ofInt_add, q_ofr (by omega) (by omega)]; omega) | (rw [w_nat (by omega)]; omega)) ?_
        refine w_st rfl (fun _ => rfl) ?_
        refine w_st rfl (fun _ => rfl) ?_
        refine w_st rfl (fun _ => rfl) ?_
        refine w_st rfl (fun _ => rfl) ?_
        show w_T L xs 60 m_L_law 509 [(3, .int (Int32.ofInt (i : Int))), (2, .ref 100), (1, .ref 1), (0, .ref 0)] [.int ((Int32.ofInt (i : Int)) + (Int32.ofInt 2)), .ref 0, .int (xs ((Int32.ofInt (i : Int)) + (Int32.ofInt 1)).toInt.toNat), .ref 1] S R Q
        refine w_sld rfl (by first | (rw [← Int32.ofInt_add, q_ofr (by omega) (by omega)]; omega) | (rw [w_nat (by omega)]; omega)) (by first | (rw [← Int32.ofInt_add, q_ofr (by omega) (by omega)]; omega) | (rw [w_nat (by omega)]; omega)) ?_
        refine w_st rfl (fun _ => rfl) ?_
        refine w_st rfl (fun _ => rfl) ?_
        refine w_st rfl (fun _ => rfl) ?_
        refine w_st rfl (fun _ => rfl) ?_
        show w_T L xs 60 m_L_law 514 [(3, .int (Int32.ofInt (i : Int))), (2, .ref 100), (1, .ref 1), (0, .ref 0)] [.int ((Int32.ofInt (i : Int)) + (Int32.ofInt 3)), .ref 0, .int (xs ((Int32.ofInt (i : Int)) + (Int32.ofInt 2)).toInt.toNat), .int (xs ((Int32.ofInt (i : Int)) + (Int32.ofInt 1)).toInt.toNat), .ref 1] S R Q
        refine w_sld rfl (by first | (rw [← Int32.ofInt_add, q_ofr (by omega) (by omega)]; omega) | (rw [w_nat (by omega)]; omega)) (by first | (rw [← Int32.ofInt_add, q_ofr (by omega) (by omega)]; omega) | (rw [w_nat (by omega)]; omega)) ?_
        refine w_st rfl (fun _ => rfl) ?_
        refine w_st rfl (fun _ => rfl) ?_
        refine w_st rfl (fun _ => rfl) ?_
        refine w_st rfl (fun _ => rfl) ?_
        show w_T L xs 60 m_L_law 519 [(3, .int (Int32.ofInt (i : Int))), (2, .ref 100), (1, .ref 1), (0, .ref 0)] [.int ((Int32.ofInt (i : Int)) + (Int32.ofInt 4)), .ref 0, .int (xs ((Int32.ofInt (i : Int)) + (Int32.ofInt 3)).toInt.toNat), .int (xs ((Int32.ofInt (i : Int)) + (Int32.ofInt 2)).toInt.toNat), .int (xs ((Int32.ofInt (i : Int)) + (Int32.ofInt 1)).toInt.toNat), .ref 1] S R Q
        refine w_sld rfl (by first | (rw [← Int32.ofInt_add, q_ofr (by omega) (by omega)]; omega) | (rw [w_nat (by omega)]; omega)) (by first | (rw [← Int32.ofInt_add, q_ofr (by omega) (by omega)]; omega) | (rw [w_nat (by omega)]; omega)) ?_
        refine w_st rfl (fun _ => rfl) ?_
        refine w_st rfl (fun _ => rfl) ?_
        refine w_st rfl (fun _ => rfl) ?_
        refine w_st rfl (fun _ => rfl) ?_
        show w_T L xs 60 m_L_law 524 [(3, .int (Int32.ofInt (i : Int))), (2, .ref 100), (1, .ref 1), (0, .ref 0)] [.int ((Int32.ofInt (i : Int)) + (Int32.ofInt 5)), .ref 0, .int (xs ((Int32.ofInt (i : Int)) + (Int32.ofInt 4)).toInt.toNat), .int (xs ((Int32.ofInt (i : Int)) + (Int32.ofInt 3)).toInt.toNat), .int (xs ((Int32.ofInt (i : Int)) + (Int32.ofInt 2)).toInt.toNat), .int (xs ((Int32.ofInt (i : Int)) + (Int32.ofInt 1)).toInt.toNat), .ref 1] S R Q
        refine w_sld rfl (by first | (rw [← Int32.ofInt_add, q_ofr (by omega) (by omega)]; omega) | (rw [w_nat (by omega)]; omega)) (by first | (rw [← Int32.ofInt_add, q_ofr (by omega) (by omega)]; omega) | (rw [w_nat (by omega)]; omega)) ?_
        show w_T L xs 60 m_L_law 525 [(3, .int (Int32.ofInt (i : Int))), (2, .ref 100), (1, .ref 1), (0, .ref 0)] [.int (xs ((Int32.ofInt (i : Int)) + (Int32.ofInt 5)).toInt.toNat), .int (xs ((Int32.ofInt (i : Int)) + (Int32.ofInt 4)).toInt.toNat), .int (xs ((Int32.ofInt (i : Int)) + (Int32.ofInt 3)).toInt.toNat), .int (xs ((Int32.ofInt (i : Int)) + (Int32.ofInt 2)).toInt.toNat), .int (xs ((Int32.ofInt (i : Int)) + (Int32.ofInt 1)).toInt.toNat), .ref 1] S R Q
        refine w_cv rfl (by decide) mt_X11_feed v_tyC rfl rfl rfl (Nat.le_of_ble_eq_true rfl) (Nat.le_of_ble_eq_true rfl) (Nat.le_of_ble_eq_true rfl) ?_
        show w_T L xs _ m_X11_feed 0 (lv_args 0 [.ref 1, .int (xs ((Int32.ofInt (i : Int)) + (Int32.ofInt 1)).toInt.toNat), .int (xs ((Int32.ofInt (i : Int)) + (Int32.ofInt 2)).toInt.toNat), .int (xs ((Int32.ofInt (i : Int)) + (Int32.ofInt 3)).toInt.toNat), .int (xs ((Int32.ofInt (i : Int)) + (Int32.ofInt 4)).toInt.toNat), .int (xs ((Int32.ofInt (i : Int)) + (Int32.ofInt 5)).toInt.toNat)]) [] S R _
        refine w_met (v_met 60 122 rw_149 (List.mem_of_getElem? (i := 0) rfl) (Nat.le_of_ble_eq_true rfl)) (Nat.le_of_ble_eq_true rfl) mt_X11_feed ⟨rfl, ⟨_, rfl, (q_rng _).1, (q_rng _).2⟩, ⟨_, rfl, (q_rng _).1, (q_rng _).2⟩, ⟨_, rfl, (q_rng _).1, (q_rng _).2⟩, ⟨_, rfl, (q_rng _).1, (q_rng _).2⟩, ⟨_, rfl, (q_rng _).1, (q_rng _).2⟩, trivial⟩ hT hO (fun r S1 R1 hT1 hO1 hr hF1 => ?_)
        obtain ⟨u1, hr, -, -⟩ := hr
        subst hr
        have hK1 : S1 0 14 = S1 99 92 := by rw [(hF1 0 14 (by decide +kernel)).1, (hF1 99 92 (by decide +kernel)).1]; exact hK
        refine w_st rfl (fun _ => rfl) ?_
        refine w_st rfl (fun _ => rfl) ?_
        refine w_st rfl (fun _ => rfl) ?_
        refine w_st rfl (fun _ => rfl) ?_
        refine w_st rfl (fun _ => rfl) ?_
        refine w_st rfl (fun _ => rfl) ?_
        show w_T L xs 60 m_L_law 534 [(3, .int (Int32.ofInt (i : Int))), (2, .ref 100), (1, .ref 1), (0, .ref 0)] [.int ((Int32.ofInt (i : Int)) + (Int32.ofInt 1)), .ref 0, .ref 100] S1 R1 Q
        refine w_sld rfl (by first | (rw [← Int32.ofInt_add, q_ofr (by omega) (by omega)]; omega) | (rw [w_nat (by omega)]; omega)) (by first | (rw [← Int32.ofInt_add, q_ofr (by omega) (by omega)]; omega) | (rw [w_nat (by omega)]; omega)) ?_
        refine w_st rfl (fun _ => rfl) ?_
        refine w_st rfl (fun _ => rfl) ?_
        refine w_st rfl (fun _ => rfl) ?_
        refine w_st rfl (fun _ => rfl) ?_
        show w_T L xs 60 m_L_law 539 [(3, .int (Int32.ofInt (i : Int))), (2, .ref 100), (1, .ref 1), (0, .ref 0)] [.int ((Int32.ofInt (i : Int)) + (Int32.ofInt 2)), .ref 0, .int (xs ((Int32.ofInt (i : Int)) + (Int32.ofInt 1)).toInt.toNat), .ref 100] S1 R1 Q
        refine w_sld rfl (by first | (rw [← Int32.ofInt_add, q_ofr (by omega) (by omega)]; omega) | (rw [w_nat (by omega)]; omega)) (by first | (rw [← Int32.ofInt_add, q_ofr (by omega) (by omega)]; omega) | (rw [w_nat (by omega)]; omega)) ?_
        refine w_st rfl (fun _ => rfl) ?_
        refine w_st rfl (fun _ => rfl) ?_
        refine w_st rfl (fun _ => rfl) ?_
        refine w_st rfl (fun _ => rfl) ?_
        show w_T L xs 60 m_L_law 544 [(3, .int (Int32.ofInt (i : Int))), (2, .ref 100), (1, .ref 1), (0, .ref 0)] [.int ((Int32.ofInt (i : Int)) + (Int32.ofInt 3)), .ref 0, .int (xs ((Int32.ofInt (i : Int)) + (Int32.ofInt 2)).toInt.toNat), .int (xs ((Int32.ofInt (i : Int)) + (Int32.ofInt 1)).toInt.toNat), .ref 100] S1 R1 Q
        refine w_sld rfl (by first | (rw [← Int32.ofInt_add, q_ofr (by omega) (by omega)]; omega) | (rw [w_nat (by omega)]; omega)) (by first | (rw [← Int32.ofInt_add, q_ofr (by omega) (by omega)]; omega) | (rw [w_nat (by omega)]; omega)) ?_
        refine w_st rfl (fun _ => rfl) ?_
        refine w_st rfl (fun _ => rfl) ?_
        refine w_st rfl (fun _ => rfl) ?_
        refine w_st rfl (fun _ => rfl) ?_
        show w_T L xs 60 m_L_law 549 [(3, .int (Int32.ofInt (i : Int))), (2, .ref 100), (1, .ref 1), (0, .ref 0)] [.int ((Int32.ofInt (i : Int)) + (Int32.ofInt 4)), .ref 0, .int (xs ((Int32.ofInt (i : Int)) + (Int32.ofInt 3)).toInt.toNat), .int (xs ((Int32.ofInt (i : Int)) + (Int32.ofInt 2)).toInt.toNat), .int (xs ((Int32.ofInt (i : Int)) + (Int32.ofInt 1)).toInt.toNat), .ref 100] S1 R1 Q
        refine w_sld rfl (by first | (rw [← Int32.ofInt_add, q_ofr (by omega) (by omega)]; omega) | (rw [w_nat (by omega)]; omega)) (by first | (rw [← Int32.ofInt_add, q_ofr (by omega) (by omega)]; omega) | (rw [w_nat (by omega)]; omega)) ?_
        refine w_st rfl (fun _ => rfl) ?_
        refine w_st rfl (fun _ => rfl) ?_
        refine w_st rfl (fun _ => rfl) ?_
        refine w_st rfl (fun _ => rfl) ?_
        show w_T L xs 60 m_L_law 554 [(3, .int (Int32.ofInt (i : Int))), (2, .ref 100), (1, .ref 1), (0, .ref 0)] [.int ((Int32.ofInt (i : Int)) + (Int32.ofInt 5)), .ref 0, .int (xs ((Int32.ofInt (i : Int)) + (Int32.ofInt 4)).toInt.toNat), .int (xs ((Int32.ofInt (i : Int)) + (Int32.ofInt 3)).toInt.toNat), .int (xs ((Int32.ofInt (i : Int)) + (Int32.ofInt 2)).toInt.toNat), .int (xs ((Int32.ofInt (i : Int)) + (Int32.ofInt 1)).toInt.toNat), .ref 100] S1 R1 Q
        refine w_sld rfl (by first | (rw [← Int32.ofInt_add, q_ofr (by omega) (by omega)]; omega) | (rw [w_nat (by omega)]; omega)) (by first | (rw [← Int32.ofInt_add, q_ofr (by omega) (by omega)]; omega) | (rw [w_nat (by omega)]; omega)) ?_
        show w_T L xs 60 m_L_law 555 [(3, .int (Int32.ofInt (i : Int))), (2, .ref 100), (1, .ref 1), (0, .ref 0)] [.int (xs ((Int32.ofInt (i : Int)) + (Int32.ofInt 5)).toInt.toNat), .int (xs ((Int32.ofInt (i : Int)) + (Int32.ofInt 4)).toInt.toNat), .int (xs ((Int32.ofInt (i : Int)) + (Int32.ofInt 3)).toInt.toNat), .int (xs ((Int32.ofInt (i : Int)) + (Int32.ofInt 2)).toInt.toNat), .int (xs ((Int32.ofInt (i : Int)) + (Int32.ofInt 1)).toInt.toNat), .ref 100] S1 R1 Q
        refine w_cv rfl (by decide) mt_X12_feed v_tyM rfl rfl rfl (Nat.le_of_ble_eq_true rfl) (Nat.le_of_ble_eq_true rfl) (Nat.le_of_ble_eq_true rfl) ?_
        show w_T L xs _ m_X12_feed 0 (lv_args 0 [.ref 100, .int (xs ((Int32.ofInt (i : Int)) + (Int32.ofInt 1)).toInt.toNat), .int (xs ((Int32.ofInt (i : Int)) + (Int32.ofInt 2)).toInt.toNat), .int (xs ((Int32.ofInt (i : Int)) + (Int32.ofInt 3)).toInt.toNat), .int (xs ((Int32.ofInt (i : Int)) + (Int32.ofInt 4)).toInt.toNat), .int (xs ((Int32.ofInt (i : Int)) + (Int32.ofInt 5)).toInt.toNat)]) [] S1 R1 _
        refine w_met (v_met 60 165 rw_181 (List.mem_of_getElem? (i := 0) rfl) (Nat.le_of_ble_eq_true rfl)) (Nat.le_of_ble_eq_true rfl) mt_X12_feed ⟨rfl, ⟨_, rfl, (q_rng _).1, (q_rng _).2⟩, ⟨_, rfl, (q_rng _).1, (q_rng _).2⟩, ⟨_, rfl, (q_rng _).1, (q_rng _).2⟩, ⟨_, rfl, (q_rng _).1, (q_rng _).2⟩, ⟨_, rfl, (q_rng _).1, (q_rng _).2⟩, trivial⟩ hT1 hO1 (fun r S2 R2 hT2 hO2 hr hF2 => ?_)
        obtain ⟨u2, hr, -, -⟩ := hr
        subst hr
        have hK2 : S2 0 14 = S2 99 92 := by rw [(hF2 0 14 (by decide +kernel)).1, (hF2 99 92 (by decide +kernel)).1]; exact hK1
        refine w_st rfl (fun _ => rfl) ?_
        refine w_st rfl (fun _ => rfl) ?_
        show w_T L xs 60 m_L_law 1446 [(3, .int (Int32.ofInt (i : Int))), (2, .ref 100), (1, .ref 1), (0, .ref 0)] [] S2 R2 Q
        exact tail S2 R2 hT2 hO2 hK2
      | 8, hk =>
        obtain rfl : (529 : Int) = o := Option.some.inj hk
        refine ⟨562, by decide, ?_⟩
        refine w_st rfl (fun _ => rfl) ?_
        refine w_st rfl (fun _ => rfl) ?_
        refine w_st rfl (fun _ => rfl) ?_
        refine w_st rfl (fun _ => rfl) ?_
        refine w_st rfl (fun _ => rfl) ?_
        show w_T L xs 60 m_L_law 567 [(3, .int (Int32.ofInt (i : Int))), (2, .ref 100), (1, .ref 1), (0, .ref 0)] [.int ((Int32.ofInt (i : Int)) + (Int32.ofInt 1)), .ref 0, .ref 1] S R Q
        refine w_sld rfl (by first | (rw [← Int32.ofInt_add, q_ofr (by omega) (by omega)]; omega) | (rw [w_nat (by omega)]; omega)) (by first | (rw [← Int32.ofInt_add, q_ofr (by omega) (by omega)]; omega) | (rw [w_nat (by omega)]; omega)) ?_
        show w_T L xs 60 m_L_law 568 [(3, .int (Int32.ofInt (i : Int))), (2, .ref 100), (1, .ref 1), (0, .ref 0)] [.int (xs ((Int32.ofInt (i : Int)) + (Int32.ofInt 1)).toInt.toNat), .ref 1] S R Q
        refine w_cv rfl (by decide) mt_X11_law v_tyC rfl rfl rfl (Nat.le_of_ble_eq_true rfl) (Nat.le_of_ble_eq_true rfl) (Nat.le_of_ble_eq_true rfl) ?_
        show w_T L xs _ m_X11_law 0 (lv_args 0 [.ref 1, .int (xs ((Int32.ofInt (i : Int)) + (Int32.ofInt 1)).toInt.toNat)]) [] S R _
        refine w_met (v_met 60 123 rw_150 (List.mem_of_getElem? (i := 0) rfl) (Nat.le_of_ble_eq_true rfl)) (Nat.le_of_ble_eq_true rfl) mt_X11_law ⟨rfl, ⟨_, rfl, (q_rng _).1, (q_rng _).2⟩, trivial⟩ hT hO (fun r S1 R1 hT1 hO1 hr hF1 => ?_)
        obtain ⟨u1, hr, -, -⟩ := hr
        subst hr
        have hK1 : S1 0 14 = S1 99 92 := by rw [(hF1 0 14 (by decide +kernel)).1, (hF1 99 92 (by decide +kernel)).1]; exact hK
        refine w_st rfl (fun _ => rfl) ?_
        refine w_st rfl (fun _ => rfl) ?_
        refine w_st rfl (fun _ => rfl) ?_
        refine w_st rfl (fun _ => rfl) ?_
        refine w_st rfl (fun _ => rfl) ?_
        refine w_st rfl (fun _ => rfl) ?_
        show w_T L xs 60 m_L_law 577 [(3, .int (Int32.ofInt (i : Int))), (2, .ref 100), (1, .ref 1), (0, .ref 0)] [.int ((Int32.ofInt (i : Int)) + (Int32.ofInt 1)), .ref 0, .ref 100] S1 R1 Q
        refine w_sld rfl (by first | (rw [← Int32.ofInt_add, q_ofr (by omega) (by omega)]; omega) | (rw [w_nat (by omega)]; omega)) (by first | (rw [← Int32.ofInt_add, q_ofr (by omega) (by omega)]; omega) | (rw [w_nat (by omega)]; omega)) ?_
        show w_T L xs 60 m_L_law 578 [(3, .int (Int32.ofInt (i : Int))), (2, .ref 100), (1, .ref 1), (0, .ref 0)] [.int (xs ((Int32.ofInt (i : Int)) + (Int32.ofInt 1)).toInt.toNat), .ref 100] S1 R1 Q
        refine w_cv rfl (by decide) mt_X12_law v_tyM rfl rfl rfl (Nat.le_of_ble_eq_true rfl) (Nat.le_of_ble_eq_true rfl) (Nat.le_of_ble_eq_true rfl) ?_
        show w_T L xs _ m_X12_law 0 (lv_args 0 [.ref 100, .int (xs ((Int32.ofInt (i : Int)) + (Int32.ofInt 1)).toInt.toNat)]) [] S1 R1 _
        refine w_met (v_met 60 193 rw_183 (List.mem_of_getElem? (i := 0) rfl) (Nat.le_of_ble_eq_true rfl)) (Nat.le_of_ble_eq_true rfl) mt_X12_law ⟨rfl, ⟨_, rfl, (q_rng _).1, (q_rng _).2⟩, trivial⟩ hT1 hO1 (fun r S2 R2 hT2 hO2 hr hF2 => ?_)
        obtain ⟨u2, hr, -, -⟩ := hr
        subst hr
        have hK2 : S2 0 14 = S2 99 92 := by rw [(hF2 0 14 (by decide +kernel)).1, (hF2 99 92 (by decide +kernel)).1]; exact hK1
        refine w_st rfl (fun _ => rfl) ?_
        refine w_st rfl (fun _ => rfl) ?_
        show w_T L xs 60 m_L_law 1446 [(3, .int (Int32.ofInt (i : Int))), (2, .ref 100), (1, .ref 1), (0, .ref 0)] [] S2 R2 Q
        exact tail S2 R2 hT2 hO2 hK2
      | 9, hk =>
        obtain rfl : (552 : Int) = o := Option.some.inj hk
        refine ⟨585, by decide, ?_⟩
        refine w_st rfl (fun _ => rfl) ?_
        refine w_st rfl (fun _ => rfl) ?_
        refine w_st rfl (fun _ => rfl) ?_
        refine w_st rfl (fun _ => rfl) ?_
        refine w_st rfl (fun _ => rfl) ?_
        show w_T L xs 60 m_L_law 590 [(3, .int (Int32.ofInt (i : Int))), (2, .ref 100), (1, .ref 1), (0, .ref 0)] [.int ((Int32.ofInt (i : Int)) + (Int32.ofInt 1)), .ref 0, .ref 1] S R Q
        refine w_sld rfl (by first | (rw [← Int32.ofInt_add, q_ofr (by omega) (by omega)]; omega) | (rw [w_nat (by omega)]; omega)) (by first | (rw [← Int32.ofInt_add, q_ofr (by omega) (by omega)]; omega) | (rw [w_nat (by omega)]; omega)) ?_
        show w_T L xs 60 m_L_law 591 [(3, .int (Int32.ofInt (i : Int))), (2, .ref 100), (1, .ref 1), (0, .ref 0)] [.int (xs ((Int32.ofInt (i : Int)) + (Int32.ofInt 1)).toInt.toNat), .ref 1] S R Q
        refine w_cv rfl (by decide) mt_X11_rules v_tyC rfl rfl rfl (Nat.le_of_ble_eq_true rfl) (Nat.le_of_ble_eq_true rfl) (Nat.le_of_ble_eq_true rfl) ?_
        show w_T L xs _ m_X11_rules 0 (lv_args 0 [.ref 1, .int (xs ((Int32.ofInt (i : Int)) + (Int32.ofInt 1)).toInt.toNat)]) [] S R _
        refine w_met (v_met 60 124 rw_151 (List.mem_of_getElem? (i := 0) rfl) (Nat.le_of_ble_eq_true rfl)) (Nat.le_of_ble_eq_true rfl) mt_X11_rules ⟨rfl, ⟨_, rfl, (q_rng _).1, (q_rng _).2⟩, trivial⟩ hT hO (fun r S1 R1 hT1 hO1 hr hF1 => ?_)
        obtain ⟨u1, hr, -, -⟩ := hr
        subst hr
        have hK1 : S1 0 14 = S1 99 92 := by rw [(hF1 0 14 (by decide +kernel)).1, (hF1 99 92 (by decide +kernel)).1]; exact hK
        refine w_st rfl (fun _ => rfl) ?_
        refine w_st rfl (fun _ => rfl) ?_
        refine w_st rfl (fun _ => rfl) ?_
        refine w_st rfl (fun _ => rfl) ?_
        refine w_st rfl (fun _ => rfl) ?_
        refine w_st rfl (fun _ => rfl) ?_
        show w_T L xs 60 m_L_law 600 [(3, .int (Int32.ofInt (i : Int))), (2, .ref 100), (1, .ref 1), (0, .ref 0)] [.int ((Int32.ofInt (i : Int)) + (Int32.ofInt 1)), .ref 0, .ref 100] S1 R1 Q
        refine w_sld rfl (by first | (rw [← Int32.ofInt_add, q_ofr (by omega) (by omega)]; omega) | (rw [w_nat (by omega)]; omega)) (by first | (rw [← Int32.ofInt_add, q_ofr (by omega) (by omega)]; omega) | (rw [w_nat (by omega)]; omega)) ?_
        show w_T L xs 60 m_L_law 601 [(3, .int (Int32.ofInt (i : Int))), (2, .ref 100), (1, .ref 1), (0, .ref 0)] [.int (xs ((Int32.ofInt (i : Int)) + (Int32.ofInt 1)).toInt.toNat), .ref 100] S1 R1 Q
        refine w_cv rfl (by decide) mt_X12_rules v_tyM rfl rfl rfl (Nat.le_of_ble_eq_true rfl) (Nat.le_of_ble_eq_true rfl) (Nat.le_of_ble_eq_true rfl) ?_
        show w_T L xs _ m_X12_rules 0 (lv_args 0 [.ref 100, .int (xs ((Int32.ofInt (i : Int)) + (Int32.ofInt 1)).toInt.toNat)]) [] S1 R1 _
        refine w_met (v_met 60 194 rw_184 (List.mem_of_getElem? (i := 0) rfl) (Nat.le_of_ble_eq_true rfl)) (Nat.le_of_ble_eq_true rfl) mt_X12_rules ⟨rfl, ⟨_, rfl, (q_rng _).1, (q_rng _).2⟩, trivial⟩ hT1 hO1 (fun r S2 R2 hT2 hO2 hr hF2 => ?_)
        obtain ⟨u2, hr, -, -⟩ := hr
        subst hr
        have hK2 : S2 0 14 = S2 99 92 := by rw [(hF2 0 14 (by decide +kernel)).1, (hF2 99 92 (by decide +kernel)).1]; exact hK1
        refine w_st rfl (fun _ => rfl) ?_
        refine w_st rfl (fun _ => rfl) ?_
        show w_T L xs 60 m_L_law 1446 [(3, .int (Int32.ofInt (i : Int))), (2, .ref 100), (1, .ref 1), (0, .ref 0)] [] S2 R2 Q
        exact tail S2 R2 hT2 hO2 hK2
      | 10, hk =>
        obtain rfl : (575 : Int) = o := Option.some.inj hk
        refine ⟨608, by decide, ?_⟩
        refine w_st rfl (fun _ => rfl) ?_
        refine w_st rfl (fun _ => rfl) ?_
        refine w_st rfl (fun _ => rfl) ?_
        refine w_st rfl (fun _ => rfl) ?_
        refine w_st rfl (fun _ => rfl) ?_
        show w_T L xs 60 m_L_law 613 [(3, .int (Int32.ofInt (i : Int))), (2, .ref 100), (1, .ref 1), (0, .ref 0)] [.int ((Int32.ofInt (i : Int)) + (Int32.ofInt 1)), .ref 0, .ref 1] S R Q
        refine w_sld rfl (by first | (rw [← Int32.ofInt_add, q_ofr (by omega) (by omega)]; omega) | (rw [w_nat (by omega)]; omega)) (by first | (rw [← Int32.ofInt_add, q_ofr (by omega) (by omega)]; omega) | (rw [w_nat (by omega)]; omega)) ?_
        refine w_st rfl (fun _ => rfl) ?_
        refine w_st rfl (fun _ => rfl) ?_
        refine w_st rfl (fun _ => rfl) ?_
        refine w_st rfl (fun _ => rfl) ?_
        show w_T L xs 60 m_L_law 618 [(3, .int (Int32.ofInt (i : Int))), (2, .ref 100), (1, .ref 1), (0, .ref 0)] [.int ((Int32.ofInt (i : Int)) + (Int32.ofInt 2)), .ref 0, .int (xs ((Int32.ofInt (i : Int)) + (Int32.ofInt 1)).toInt.toNat), .ref 1] S R Q
        refine w_sld rfl (by first | (rw [← Int32.ofInt_add, q_ofr (by omega) (by omega)]; omega) | (rw [w_nat (by omega)]; omega)) (by first | (rw [← Int32.ofInt_add, q_ofr (by omega) (by omega)]; omega) | (rw [w_nat (by omega)]; omega)) ?_
        show w_T L xs 60 m_L_law 619 [(3, .int (Int32.ofInt (i : Int))), (2, .ref 100), (1, .ref 1), (0, .ref 0)] [.int (xs ((Int32.ofInt (i : Int)) + (Int32.ofInt 2)).toInt.toNat), .int (xs ((Int32.ofInt (i : Int)) + (Int32.ofInt 1)).toInt.toNat), .ref 1] S R Q
        refine w_cv rfl (by decide) mt_X11_timetable v_tyC rfl rfl rfl (Nat.le_of_ble_eq_true rfl) (Nat.le_of_ble_eq_true rfl) (Nat.le_of_ble_eq_true rfl) ?_
        show w_T L xs _ m_X11_timetable 0 (lv_args 0 [.ref 1, .int (xs ((Int32.ofInt (i : Int)) + (Int32.ofInt 1)).toInt.toNat), .int (xs ((Int32.ofInt (i : Int)) + (Int32.ofInt 2)).toInt.toNat)]) [] S R _
        refine w_met (v_met 60 125 rw_152 (List.mem_of_getElem? (i := 0) rfl) (Nat.le_of_ble_eq_true rfl)) (Nat.le_of_ble_eq_true rfl) mt_X11_timetable ⟨rfl, ⟨_, rfl, (q_rng _).1, (q_rng _).2⟩, ⟨_, rfl, (q_rng _).1, (q_rng _).2⟩, trivial⟩ hT hO (fun r S1 R1 hT1 hO1 hr hF1 => ?_)
        obtain ⟨u1, hr, -, -⟩ := hr
        subst hr
        have hK1 : S1 0 14 = S1 99 92 := by rw [(hF1 0 14 (by decide +kernel)).1, (hF1 99 92 (by decide +kernel)).1]; exact hK
        refine w_st rfl (fun _ => rfl) ?_
        refine w_st rfl (fun _ => rfl) ?_
        refine w_st rfl (fun _ => rfl) ?_
        refine w_st rfl (fun _ => rfl) ?_
        refine w_st rfl (fun _ => rfl) ?_
        refine w_st rfl (fun _ => rfl) ?_
        show w_T L xs 60 m_L_law 628 [(3, .int (Int32.ofInt (i : Int))), (2, .ref 100), (1, .ref 1), (0, .ref 0)] [.int ((Int32.ofInt (i : Int)) + (Int32.ofInt 1)), .ref 0, .ref 100] S1 R1 Q
        refine w_sld rfl (by first | (rw [← Int32.ofInt_add, q_ofr (by omega) (by omega)]; omega) | (rw [w_nat (by omega)]; omega)) (by first | (rw [← Int32.ofInt_add, q_ofr (by omega) (by omega)]; omega) | (rw [w_nat (by omega)]; omega)) ?_
        refine w_st rfl (fun _ => rfl) ?_
        refine w_st rfl (fun _ => rfl) ?_
        refine w_st rfl (fun _ => rfl) ?_
        refine w_st rfl (fun _ => rfl) ?_
        show w_T L xs 60 m_L_law 633 [(3, .int (Int32.ofInt (i : Int))), (2, .ref 100), (1, .ref 1), (0, .ref 0)] [.int ((Int32.ofInt (i : Int)) + (Int32.ofInt 2)), .ref 0, .int (xs ((Int32.ofInt (i : Int)) + (Int32.ofInt 1)).toInt.toNat), .ref 100] S1 R1 Q
        refine w_sld rfl (by first | (rw [← Int32.ofInt_add, q_ofr (by omega) (by omega)]; omega) | (rw [w_nat (by omega)]; omega)) (by first | (rw [← Int32.ofInt_add, q_ofr (by omega) (by omega)]; omega) | (rw [w_nat (by omega)]; omega)) ?_
        show w_T L xs 60 m_L_law 634 [(3, .int (Int32.ofInt (i : Int))), (2, .ref 100), (1, .ref 1), (0, .ref 0)] [.int (xs ((Int32.ofInt (i : Int)) + (Int32.ofInt 2)).toInt.toNat), .int (xs ((Int32.ofInt (i : Int)) + (Int32.ofInt 1)).toInt.toNat), .ref 100] S1 R1 Q
        refine w_cv rfl (by decide) mt_X12_timetable v_tyM rfl rfl rfl (Nat.le_of_ble_eq_true rfl) (Nat.le_of_ble_eq_true rfl) (Nat.le_of_ble_eq_true rfl) ?_
        show w_T L xs _ m_X12_timetable 0 (lv_args 0 [.ref 100, .int (xs ((Int32.ofInt (i : Int)) + (Int32.ofInt 1)).toInt.toNat), .int (xs ((Int32.ofInt (i : Int)) + (Int32.ofInt 2)).toInt.toNat)]) [] S1 R1 _
        refine w_met (v_met 60 225 rw_202 (List.mem_of_getElem? (i := 0) rfl) (Nat.le_of_ble_eq_true rfl)) (Nat.le_of_ble_eq_true rfl) mt_X12_timetable ⟨rfl, ⟨_, rfl, (q_rng _).1, (q_rng _).2⟩, ⟨_, rfl, (q_rng _).1, (q_rng _).2⟩, trivial⟩ hT1 hO1 (fun r S2 R2 hT2 hO2 hr hF2 => ?_)
        obtain ⟨u2, hr, -, -⟩ := hr
        subst hr
        have hK2 : S2 0 14 = S2 99 92 := by rw [(hF2 0 14 (by decide +kernel)).1, (hF2 99 92 (by decide +kernel)).1]; exact hK1
        refine w_st rfl (fun _ => rfl) ?_
        refine w_st rfl (fun _ => rfl) ?_
        show w_T L xs 60 m_L_law 1446 [(3, .int (Int32.ofInt (i : Int))), (2, .ref 100), (1, .ref 1), (0, .ref 0)] [] S2 R2 Q
        exact tail S2 R2 hT2 hO2 hK2
      | 11, hk =>
        obtain rfl : (608 : Int) = o := Option.some.inj hk
        refine ⟨641, by decide, ?_⟩
        refine w_st rfl (fun _ => rfl) ?_
        refine w_st rfl (fun _ => rfl) ?_
        refine w_st rfl (fun _ => rfl) ?_
        refine w_st rfl (fun _ => rfl) ?_
        refine w_st rfl (fun _ => rfl) ?_
        show w_T L xs 60 m_L_law 646 [(3, .int (Int32.ofInt (i : Int))), (2, .ref 100), (1, .ref 1), (0, .ref 0)] [.int ((Int32.ofInt (i : Int)) + (Int32.ofInt 1)), .ref 0, .ref 1] S R Q
        refine w_sld rfl (by first | (rw [← Int32.ofInt_add, q_ofr (by omega) (by omega)]; omega) | (rw [w_nat (by omega)]; omega)) (by first | (rw [← Int32.ofInt_add, q_ofr (by omega) (by omega)]; omega) | (rw [w_nat (by omega)]; omega)) ?_
        show w_T L xs 60 m_L_law 647 [(3, .int (Int32.ofInt (i : Int))), (2, .ref 100), (1, .ref 1), (0, .ref 0)] [.int (xs ((Int32.ofInt (i : Int)) + (Int32.ofInt 1)).toInt.toNat), .ref 1] S R Q
        refine w_cv rfl (by decide) mt_X11_months v_tyC rfl rfl rfl (Nat.le_of_ble_eq_true rfl) (Nat.le_of_ble_eq_true rfl) (Nat.le_of_ble_eq_true rfl) ?_
        show w_T L xs _ m_X11_months 0 (lv_args 0 [.ref 1, .int (xs ((Int32.ofInt (i : Int)) + (Int32.ofInt 1)).toInt.toNat)]) [] S R _
        refine w_met (v_met 60 126 rw_153 (List.mem_of_getElem? (i := 0) rfl) (Nat.le_of_ble_eq_true rfl)) (Nat.le_of_ble_eq_true rfl) mt_X11_months ⟨rfl, ⟨_, rfl, (q_rng _).1, (q_rng _).2⟩, trivial⟩ hT hO (fun r S1 R1 hT1 hO1 hr hF1 => ?_)
        obtain ⟨u1, hr, -, -⟩ := hr
        subst hr
        have hK1 : S1 0 14 = S1 99 92 := by rw [(hF1 0 14 (by decide +kernel)).1, (hF1 99 92 (by decide +kernel)).1]; exact hK
        refine w_st rfl (fun _ => rfl) ?_
        refine w_st rfl (fun _ => rfl) ?_
        refine w_st rfl (fun _ => rfl) ?_
        refine w_st rfl (fun _ => rfl) ?_
        refine w_st rfl (fun _ => rfl) ?_
        refine w_st rfl (fun _ => rfl) ?_
        show w_T L xs 60 m_L_law 656 [(3, .int (Int32.ofInt (i : Int))), (2, .ref 100), (1, .ref 1), (0, .ref 0)] [.int ((Int32.ofInt (i : Int)) + (Int32.ofInt 1)), .ref 0, .ref 100] S1 R1 Q
        refine w_sld rfl (by first | (rw [← Int32.ofInt_add, q_ofr (by omega) (by omega)]; omega) | (rw [w_nat (by omega)]; omega)) (by first | (rw [← Int32.ofInt_add, q_ofr (by omega) (by omega)]; omega) | (rw [w_nat (by omega)]; omega)) ?_
        show w_T L xs 60 m_L_law 657 [(3, .int (Int32.ofInt (i : Int))), (2, .ref 100), (1, .ref 1), (0, .ref 0)] [.int (xs ((Int32.ofInt (i : Int)) + (Int32.ofInt 1)).toInt.toNat), .ref 100] S1 R1 Q
        refine w_cv rfl (by decide) mt_X12_months v_tyM rfl rfl rfl (Nat.le_of_ble_eq_true rfl) (Nat.le_of_ble_eq_true rfl) (Nat.le_of_ble_eq_true rfl) ?_
        show w_T L xs _ m_X12_months 0 (lv_args 0 [.ref 100, .int (xs ((Int32.ofInt (i : Int)) + (Int32.ofInt 1)).toInt.toNat)]) [] S1 R1 _
        refine w_met (v_met 60 238 rw_212 (List.mem_of_getElem? (i := 0) rfl) (Nat.le_of_ble_eq_true rfl)) (Nat.le_of_ble_eq_true rfl) mt_X12_months ⟨rfl, ⟨_, rfl, (q_rng _).1, (q_rng _).2⟩, trivial⟩ hT1 hO1 (fun r S2 R2 hT2 hO2 hr hF2 => ?_)
        obtain ⟨u2, hr, -, -⟩ := hr
        subst hr
        have hK2 : S2 0 14 = S2 99 92 := by rw [(hF2 0 14 (by decide +kernel)).1, (hF2 99 92 (by decide +kernel)).1]; exact hK1
        refine w_st rfl (fun _ => rfl) ?_
        refine w_st rfl (fun _ => rfl) ?_
        show w_T L xs 60 m_L_law 1446 [(3, .int (Int32.ofInt (i : Int))), (2, .ref 100), (1, .ref 1), (0, .ref 0)] [] S2 R2 Q
        exact tail S2 R2 hT2 hO2 hK2
      | 12, hk =>
        obtain rfl : (631 : Int) = o := Option.some.inj hk
        refine ⟨664, by decide, ?_⟩
        refine w_st rfl (fun _ => rfl) ?_
        refine w_st rfl (fun _ => rfl) ?_
        refine w_st rfl (fun _ => rfl) ?_
        refine w_st rfl (fun _ => rfl) ?_
        refine w_st rfl (fun _ => rfl) ?_
        show w_T L xs 60 m_L_law 669 [(3, .int (Int32.ofInt (i : Int))), (2, .ref 100), (1, .ref 1), (0, .ref 0)] [.int ((Int32.ofInt (i : Int)) + (Int32.ofInt 1)), .ref 0, .ref 1] S R Q
        refine w_sld rfl (by first | (rw [← Int32.ofInt_add, q_ofr (by omega) (by omega)]; omega) | (rw [w_nat (by omega)]; omega)) (by first | (rw [← Int32.ofInt_add, q_ofr (by omega) (by omega)]; omega) | (rw [w_nat (by omega)]; omega)) ?_
        refine w_st rfl (fun _ => rfl) ?_
        refine w_st rfl (fun _ => rfl) ?_
        refine w_st rfl (fun _ => rfl) ?_
        refine w_st rfl (fun _ => rfl) ?_
        show w_T L xs 60 m_L_law 674 [(3, .int (Int32.ofInt (i : Int))), (2, .ref 100), (1, .ref 1), (0, .ref 0)] [.int ((Int32.ofInt (i : Int)) + (Int32.ofInt 2)), .ref 0, .int (xs ((Int32.ofInt (i : Int)) + (Int32.ofInt 1)).toInt.toNat), .ref 1] S R Q
        refine w_sld rfl (by first | (rw [← Int32.ofInt_add, q_ofr (by omega) (by omega)]; omega) | (rw [w_nat (by omega)]; omega)) (by first | (rw [← Int32.ofInt_add, q_ofr (by omega) (by omega)]; omega) | (rw [w_nat (by omega)]; omega)) ?_
        show w_T L xs 60 m_L_law 675 [(3, .int (Int32.ofInt (i : Int))), (2, .ref 100), (1, .ref 1), (0, .ref 0)] [.int (xs ((Int32.ofInt (i : Int)) + (Int32.ofInt 2)).toInt.toNat), .int (xs ((Int32.ofInt (i : Int)) + (Int32.ofInt 1)).toInt.toNat), .ref 1] S R Q
        refine w_cv rfl (by decide) mt_X11_tried v_tyC rfl rfl rfl (Nat.le_of_ble_eq_true rfl) (Nat.le_of_ble_eq_true rfl) (Nat.le_of_ble_eq_true rfl) ?_
        show w_T L xs _ m_X11_tried 0 (lv_args 0 [.ref 1, .int (xs ((Int32.ofInt (i : Int)) + (Int32.ofInt 1)).toInt.toNat), .int (xs ((Int32.ofInt (i : Int)) + (Int32.ofInt 2)).toInt.toNat)]) [] S R _
        refine w_met (v_met 60 127 rw_154 (List.mem_of_getElem? (i := 0) rfl) (Nat.le_of_ble_eq_true rfl)) (Nat.le_of_ble_eq_true rfl) mt_X11_tried ⟨rfl, ⟨_, rfl, (q_rng _).1, (q_rng _).2⟩, ⟨_, rfl, (q_rng _).1, (q_rng _).2⟩, trivial⟩ hT hO (fun r S1 R1 hT1 hO1 hr hF1 => ?_)
        obtain ⟨u1, hr, -, -⟩ := hr
        subst hr
        have hK1 : S1 0 14 = S1 99 92 := by rw [(hF1 0 14 (by decide +kernel)).1, (hF1 99 92 (by decide +kernel)).1]; exact hK
        refine w_st rfl (fun _ => rfl) ?_
        refine w_st rfl (fun _ => rfl) ?_
        refine w_st rfl (fun _ => rfl) ?_
        refine w_st rfl (fun _ => rfl) ?_
        refine w_st rfl (fun _ => rfl) ?_
        refine w_st rfl (fun _ => rfl) ?_
        show w_T L xs 60 m_L_law 684 [(3, .int (Int32.ofInt (i : Int))), (2, .ref 100), (1, .ref 1), (0, .ref 0)] [.int ((Int32.ofInt (i : Int)) + (Int32.ofInt 1)), .ref 0, .ref 100] S1 R1 Q
        refine w_sld rfl (by first | (rw [← Int32.ofInt_add, q_ofr (by omega) (by omega)]; omega) | (rw [w_nat (by omega)]; omega)) (by first | (rw [← Int32.ofInt_add, q_ofr (by omega) (by omega)]; omega) | (rw [w_nat (by omega)]; omega)) ?_
        refine w_st rfl (fun _ => rfl) ?_
        refine w_st rfl (fun _ => rfl) ?_
        refine w_st rfl (fun _ => rfl) ?_
        refine w_st rfl (fun _ => rfl) ?_
        show w_T L xs 60 m_L_law 689 [(3, .int (Int32.ofInt (i : Int))), (2, .ref 100), (1, .ref 1), (0, .ref 0)] [.int ((Int32.ofInt (i : Int)) + (Int32.ofInt 2)), .ref 0, .int (xs ((Int32.ofInt (i : Int)) + (Int32.ofInt 1)).toInt.toNat), .ref 100] S1 R1 Q
        refine w_sld rfl (by first | (rw [← Int32.ofInt_add, q_ofr (by omega) (by omega)]; omega) | (rw [w_nat (by omega)]; omega)) (by first | (rw [← Int32.ofInt_add, q_ofr (by omega) (by omega)]; omega) | (rw [w_nat (by omega)]; omega)) ?_
        show w_T L xs 60 m_L_law 690 [(3, .int (Int32.ofInt (i : Int))), (2, .ref 100), (1, .ref 1), (0, .ref 0)] [.int (xs ((Int32.ofInt (i : Int)) + (Int32.ofInt 2)).toInt.toNat), .int (xs ((Int32.ofInt (i : Int)) + (Int32.ofInt 1)).toInt.toNat), .ref 100] S1 R1 Q
        refine w_cv rfl (by decide) mt_X12_tried v_tyM rfl rfl rfl (Nat.le_of_ble_eq_true rfl) (Nat.le_of_ble_eq_true rfl) (Nat.le_of_ble_eq_true rfl) ?_
        show w_T L xs _ m_X12_tried 0 (lv_args 0 [.ref 100, .int (xs ((Int32.ofInt (i : Int)) + (Int32.ofInt 1)).toInt.toNat), .int (xs ((Int32.ofInt (i : Int)) + (Int32.ofInt 2)).toInt.toNat)]) [] S1 R1 _
        refine w_met (v_met 60 241 rw_215 (List.mem_of_getElem? (i := 0) rfl) (Nat.le_of_ble_eq_true rfl)) (Nat.le_of_ble_eq_true rfl) mt_X12_tried ⟨rfl, ⟨_, rfl, (q_rng _).1, (q_rng _).2⟩, ⟨_, rfl, (q_rng _).1, (q_rng _).2⟩, trivial⟩ hT1 hO1 (fun r S2 R2 hT2 hO2 hr hF2 => ?_)
        obtain ⟨u2, hr, -, -⟩ := hr
        subst hr
        have hK2 : S2 0 14 = S2 99 92 := by rw [(hF2 0 14 (by decide +kernel)).1, (hF2 99 92 (by decide +kernel)).1]; exact hK1
        refine w_st rfl (fun _ => rfl) ?_
        refine w_st rfl (fun _ => rfl) ?_
        show w_T L xs 60 m_L_law 1446 [(3, .int (Int32.ofInt (i : Int))), (2, .ref 100), (1, .ref 1), (0, .ref 0)] [] S2 R2 Q
        exact tail S2 R2 hT2 hO2 hK2
      | 13, hk =>
        obtain rfl : (664 : Int) = o := Option.some.inj hk
        refine ⟨697, by decide, ?_⟩
        refine w_st rfl (fun _ => rfl) ?_
        refine w_st rfl (fun _ => rfl) ?_
        refine w_st rfl (fun _ => rfl) ?_
        refine w_st rfl (fun _ => rfl) ?_
        refine w_st rfl (fun _ => rfl) ?_
        show w_T L xs 60 m_L_law 702 [(3, .int (Int32.ofInt (i : Int))), (2, .ref 100), (1, .ref 1), (0, .ref 0)] [.int ((Int32.ofInt (i : Int)) + (Int32.ofInt 1)), .ref 0, .ref 1] S R Q
        refine w_sld rfl (by first | (rw [← Int32.ofInt_add, q_ofr (by omega) (by omega)]; omega) | (rw [w_nat (by omega)]; omega)) (by first | (rw [← Int32.ofInt_add, q_ofr (by omega) (by omega)]; omega) | (rw [w_nat (by omega)]; omega)) ?_
        refine w_st rfl (fun _ => rfl) ?_
        refine w_st rfl (fun _ => rfl) ?_
        refine w_st rfl (fun _ => rfl) ?_
        refine w_st rfl (fun _ => rfl) ?_
        show w_T L xs 60 m_L_law 707 [(3, .int (Int32.ofInt (i : Int))), (2, .ref 100), (1, .ref 1), (0, .ref 0)] [.int ((Int32.ofInt (i : Int)) + (Int32.ofInt 2)), .ref 0, .int (xs ((Int32.ofInt (i : Int)) + (Int32.ofInt 1)).toInt.toNat), .ref 1] S R Q
        refine w_sld rfl (by first | (rw [← Int32.ofInt_add, q_ofr (by omega) (by omega)]; omega) | (rw [w_nat (by omega)]; omega)) (by first | (rw [← Int32.ofInt_add, q_ofr (by omega) (by omega)]; omega) | (rw [w_nat (by omega)]; omega)) ?_
        show w_T L xs 60 m_L_law 708 [(3, .int (Int32.ofInt (i : Int))), (2, .ref 100), (1, .ref 1), (0, .ref 0)] [.int (xs ((Int32.ofInt (i : Int)) + (Int32.ofInt 2)).toInt.toNat), .int (xs ((Int32.ofInt (i : Int)) + (Int32.ofInt 1)).toInt.toNat), .ref 1] S R Q
        refine w_cv rfl (by decide) mt_X11_gustIs v_tyC rfl rfl rfl (Nat.le_of_ble_eq_true rfl) (Nat.le_of_ble_eq_true rfl) (Nat.le_of_ble_eq_true rfl) ?_
        show w_T L xs _ m_X11_gustIs 0 (lv_args 0 [.ref 1, .int (xs ((Int32.ofInt (i : Int)) + (Int32.ofInt 1)).toInt.toNat), .int (xs ((Int32.ofInt (i : Int)) + (Int32.ofInt 2)).toInt.toNat)]) [] S R _
        refine w_met (v_met 60 128 rw_155 (List.mem_of_getElem? (i := 0) rfl) (Nat.le_of_ble_eq_true rfl)) (Nat.le_of_ble_eq_true rfl) mt_X11_gustIs ⟨rfl, ⟨_, rfl, (q_rng _).1, (q_rng _).2⟩, ⟨_, rfl, (q_rng _).1, (q_rng _).2⟩, trivial⟩ hT hO (fun r S1 R1 hT1 hO1 hr hF1 => ?_)
        obtain ⟨u1, hr, -, -⟩ := hr
        subst hr
        have hK1 : S1 0 14 = S1 99 92 := by rw [(hF1 0 14 (by decide +kernel)).1, (hF1 99 92 (by decide +kernel)).1]; exact hK
        refine w_st rfl (fun _ => rfl) ?_
        refine w_st rfl (fun _ => rfl) ?_
        refine w_st rfl (fun _ => rfl) ?_
        refine w_st rfl (fun _ => rfl) ?_
        refine w_st rfl (fun _ => rfl) ?_
        refine w_st rfl (fun _ => rfl) ?_
        show w_T L xs 60 m_L_law 717 [(3, .int (Int32.ofInt (i : Int))), (2, .ref 100), (1, .ref 1), (0, .ref 0)] [.int ((Int32.ofInt (i : Int)) + (Int32.ofInt 1)), .ref 0, .ref 100] S1 R1 Q
        refine w_sld rfl (by first | (rw [← Int32.ofInt_add, q_ofr (by omega) (by omega)]; omega) | (rw [w_nat (by omega)]; omega)) (by first | (rw [← Int32.ofInt_add, q_ofr (by omega) (by omega)]; omega) | (rw [w_nat (by omega)]; omega)) ?_
        refine w_st rfl (fun _ => rfl) ?_
        refine w_st rfl (fun _ => rfl) ?_
        refine w_st rfl (fun _ => rfl) ?_
        refine w_st rfl (fun _ => rfl) ?_
        show w_T L xs 60 m_L_law 722 [(3, .int (Int32.ofInt (i : Int))), (2, .ref 100), (1, .ref 1), (0, .ref 0)] [.int ((Int32.ofInt (i : Int)) + (Int32.ofInt 2)), .ref 0, .int (xs ((Int32.ofInt (i : Int)) + (Int32.ofInt 1)).toInt.toNat), .ref 100] S1 R1 Q
        refine w_sld rfl (by first | (rw [← Int32.ofInt_add, q_ofr (by omega) (by omega)]; omega) | (rw [w_nat (by omega)]; omega)) (by first | (rw [← Int32.ofInt_add, q_ofr (by omega) (by omega)]; omega) | (rw [w_nat (by omega)]; omega)) ?_
        show w_T L xs 60 m_L_law 723 [(3, .int (Int32.ofInt (i : Int))), (2, .ref 100), (1, .ref 1), (0, .ref 0)] [.int (xs ((Int32.ofInt (i : Int)) + (Int32.ofInt 2)).toInt.toNat), .int (xs ((Int32.ofInt (i : Int)) + (Int32.ofInt 1)).toInt.toNat), .ref 100] S1 R1 Q
        refine w_cv rfl (by decide) mt_X12_gustIs v_tyM rfl rfl rfl (Nat.le_of_ble_eq_true rfl) (Nat.le_of_ble_eq_true rfl) (Nat.le_of_ble_eq_true rfl) ?_
        show w_T L xs _ m_X12_gustIs 0 (lv_args 0 [.ref 100, .int (xs ((Int32.ofInt (i : Int)) + (Int32.ofInt 1)).toInt.toNat), .int (xs ((Int32.ofInt (i : Int)) + (Int32.ofInt 2)).toInt.toNat)]) [] S1 R1 _
        refine w_met (v_met 60 243 rw_216 (List.mem_of_getElem? (i := 0) rfl) (Nat.le_of_ble_eq_true rfl)) (Nat.le_of_ble_eq_true rfl) mt_X12_gustIs ⟨rfl, ⟨_, rfl, (q_rng _).1, (q_rng _).2⟩, ⟨_, rfl, (q_rng _).1, (q_rng _).2⟩, trivial⟩ hT1 hO1 (fun r S2 R2 hT2 hO2 hr hF2 => ?_)
        obtain ⟨u2, hr, -, -⟩ := hr
        subst hr
        have hK2 : S2 0 14 = S2 99 92 := by rw [(hF2 0 14 (by decide +kernel)).1, (hF2 99 92 (by decide +kernel)).1]; exact hK1
        refine w_st rfl (fun _ => rfl) ?_
        refine w_st rfl (fun _ => rfl) ?_
        show w_T L xs 60 m_L_law 1446 [(3, .int (Int32.ofInt (i : Int))), (2, .ref 100), (1, .ref 1), (0, .ref 0)] [] S2 R2 Q
        exact tail S2 R2 hT2 hO2 hK2
      | 14, hk =>
        obtain rfl : (697 : Int) = o := Option.some.inj hk
        refine ⟨730, by decide, ?_⟩
        refine w_st rfl (fun _ => rfl) ?_
        refine w_st rfl (fun _ => rfl) ?_
        refine w_st rfl (fun _ => rfl) ?_
        refine w_st rfl (fun _ => rfl) ?_
        refine w_st rfl (fun _ => rfl) ?_
        show w_T L xs 60 m_L_law 735 [(3, .int (Int32.ofInt (i : Int))), (2, .ref 100), (1, .ref 1), (0, .ref 0)] [.int ((Int32.ofInt (i : Int)) + (Int32.ofInt 1)), .ref 0, .ref 1] S R Q
        refine w_sld rfl (by first | (rw [← Int32.ofInt_add, q_ofr (by omega) (by omega)]; omega) | (rw [w_nat (by omega)]; omega)) (by first | (rw [← Int32.ofInt_add, q_ofr (by omega) (by omega)]; omega) | (rw [w_nat (by omega)]; omega)) ?_
        refine w_st rfl (fun _ => rfl) ?_
        refine w_st rfl (fun _ => rfl) ?_
        refine w_st rfl (fun _ => rfl) ?_
        refine w_st rfl (fun _ => rfl) ?_
        show w_T L xs 60 m_L_law 740 [(3, .int (Int32.ofInt (i : Int))), (2, .ref 100), (1, .ref 1), (0, .ref 0)] [.int ((Int32.ofInt (i : Int)) + (Int32.ofInt 2)), .ref 0, .int (xs ((Int32.ofInt (i : Int)) + (Int32.ofInt 1)).toInt.toNat), .ref 1] S R Q
        refine w_sld rfl (by first | (rw [← Int32.ofInt_add, q_ofr (by omega) (by omega)]; omega) | (rw [w_nat (by omega)]; omega)) (by first | (rw [← Int32.ofInt_add, q_ofr (by omega) (by omega)]; omega) | (rw [w_nat (by omega)]; omega)) ?_
        show w_T L xs 60 m_L_law 741 [(3, .int (Int32.ofInt (i : Int))), (2, .ref 100), (1, .ref 1), (0, .ref 0)] [.int (xs ((Int32.ofInt (i : Int)) + (Int32.ofInt 2)).toInt.toNat), .int (xs ((Int32.ofInt (i : Int)) + (Int32.ofInt 1)).toInt.toNat), .ref 1] S R Q
        refine w_cv rfl (by decide) mt_X11_wardIs v_tyC rfl rfl rfl (Nat.le_of_ble_eq_true rfl) (Nat.le_of_ble_eq_true rfl) (Nat.le_of_ble_eq_true rfl) ?_
        show w_T L xs _ m_X11_wardIs 0 (lv_args 0 [.ref 1, .int (xs ((Int32.ofInt (i : Int)) + (Int32.ofInt 1)).toInt.toNat), .int (xs ((Int32.ofInt (i : Int)) + (Int32.ofInt 2)).toInt.toNat)]) [] S R _
        refine w_met (v_met 60 129 rw_156 (List.mem_of_getElem? (i := 0) rfl) (Nat.le_of_ble_eq_true rfl)) (Nat.le_of_ble_eq_true rfl) mt_X11_wardIs ⟨rfl, ⟨_, rfl, (q_rng _).1, (q_rng _).2⟩, ⟨_, rfl, (q_rng _).1, (q_rng _).2⟩, trivial⟩ hT hO (fun r S1 R1 hT1 hO1 hr hF1 => ?_)
        obtain ⟨u1, hr, -, -⟩ := hr
        subst hr
        have hK1 : S1 0 14 = S1 99 92 := by rw [(hF1 0 14 (by decide +kernel)).1, (hF1 99 92 (by decide +kernel)).1]; exact hK
        refine w_st rfl (fun _ => rfl) ?_
        refine w_st rfl (fun _ => rfl) ?_
        refine w_st rfl (fun _ => rfl) ?_
        refine w_st rfl (fun _ => rfl) ?_
        refine w_st rfl (fun _ => rfl) ?_
        refine w_st rfl (fun _ => rfl) ?_
        show w_T L xs 60 m_L_law 750 [(3, .int (Int32.ofInt (i : Int))), (2, .ref 100), (1, .ref 1), (0, .ref 0)] [.int ((Int32.ofInt (i : Int)) + (Int32.ofInt 1)), .ref 0, .ref 100] S1 R1 Q
        refine w_sld rfl (by first | (rw [← Int32.ofInt_add, q_ofr (by omega) (by omega)]; omega) | (rw [w_nat (by omega)]; omega)) (by first | (rw [← Int32.ofInt_add, q_ofr (by omega) (by omega)]; omega) | (rw [w_nat (by omega)]; omega)) ?_
        refine w_st rfl (fun _ => rfl) ?_
        refine w_st rfl (fun _ => rfl) ?_
        refine w_st rfl (fun _ => rfl) ?_
        refine w_st rfl (fun _ => rfl) ?_
        show w_T L xs 60 m_L_law 755 [(3, .int (Int32.ofInt (i : Int))), (2, .ref 100), (1, .ref 1), (0, .ref 0)] [.int ((Int32.ofInt (i : Int)) + (Int32.ofInt 2)), .ref 0, .int (xs ((Int32.ofInt (i : Int)) + (Int32.ofInt 1)).toInt.toNat), .ref 100] S1 R1 Q
        refine w_sld rfl (by first | (rw [← Int32.ofInt_add, q_ofr (by omega) (by omega)]; omega) | (rw [w_nat (by omega)]; omega)) (by first | (rw [← Int32.ofInt_add, q_ofr (by omega) (by omega)]; omega) | (rw [w_nat (by omega)]; omega)) ?_
        show w_T L xs 60 m_L_law 756 [(3, .int (Int32.ofInt (i : Int))), (2, .ref 100), (1, .ref 1), (0, .ref 0)] [.int (xs ((Int32.ofInt (i : Int)) + (Int32.ofInt 2)).toInt.toNat), .int (xs ((Int32.ofInt (i : Int)) + (Int32.ofInt 1)).toInt.toNat), .ref 100] S1 R1 Q
        refine w_cv rfl (by decide) mt_X12_wardIs v_tyM rfl rfl rfl (Nat.le_of_ble_eq_true rfl) (Nat.le_of_ble_eq_true rfl) (Nat.le_of_ble_eq_true rfl) ?_
        show w_T L xs _ m_X12_wardIs 0 (lv_args 0 [.ref 100, .int (xs ((Int32.ofInt (i : Int)) + (Int32.ofInt 1)).toInt.toNat), .int (xs ((Int32.ofInt (i : Int)) + (Int32.ofInt 2)).toInt.toNat)]) [] S1 R1 _
        refine w_met (v_met 60 246 rw_219 (List.mem_of_getElem? (i := 0) rfl) (Nat.le_of_ble_eq_true rfl)) (Nat.le_of_ble_eq_true rfl) mt_X12_wardIs ⟨rfl, ⟨_, rfl, (q_rng _).1, (q_rng _).2⟩, ⟨_, rfl, (q_rng _).1, (q_rng _).2⟩, trivial⟩ hT1 hO1 (fun r S2 R2 hT2 hO2 hr hF2 => ?_)
        obtain ⟨u2, hr, -, -⟩ := hr
        subst hr
        have hK2 : S2 0 14 = S2 99 92 := by rw [(hF2 0 14 (by decide +kernel)).1, (hF2 99 92 (by decide +kernel)).1]; exact hK1
        refine w_st rfl (fun _ => rfl) ?_
        refine w_st rfl (fun _ => rfl) ?_
        show w_T L xs 60 m_L_law 1446 [(3, .int (Int32.ofInt (i : Int))), (2, .ref 100), (1, .ref 1), (0, .ref 0)] [] S2 R2 Q
        exact tail S2 R2 hT2 hO2 hK2
      | 15, hk =>
        obtain rfl : (730 : Int) = o := Option.some.inj hk
        refine ⟨763, by decide, ?_⟩
        refine w_st rfl (fun _ => rfl) ?_
        refine w_st rfl (fun _ => rfl) ?_
        refine w_st rfl (fun _ => rfl) ?_
        refine w_st rfl (fun _ => rfl) ?_
        refine w_st rfl (fun _ => rfl) ?_
        show w_T L xs 60 m_L_law 768 [(3, .int (Int32.ofInt (i : Int))), (2, .ref 100), (1, .ref 1), (0, .ref 0)] [.int ((Int32.ofInt (i : Int)) + (Int32.ofInt 1)), .ref 0, .ref 1] S R Q
        refine w_sld rfl (by first | (rw [← Int32.ofInt_add, q_ofr (by omega) (by omega)]; omega) | (rw [w_nat (by omega)]; omega)) (by first | (rw [← Int32.ofInt_add, q_ofr (by omega) (by omega)]; omega) | (rw [w_nat (by omega)]; omega)) ?_
        refine w_st rfl (fun _ => rfl) ?_
        refine w_st rfl (fun _ => rfl) ?_
        refine w_st rfl (fun _ => rfl) ?_
        refine w_st rfl (fun _ => rfl) ?_
        show w_T L xs 60 m_L_law 773 [(3, .int (Int32.ofInt (i : Int))), (2, .ref 100), (1, .ref 1), (0, .ref 0)] [.int ((Int32.ofInt (i : Int)) + (Int32.ofInt 2)), .ref 0, .int (xs ((Int32.ofInt (i : Int)) + (Int32.ofInt 1)).toInt.toNat), .ref 1] S R Q
        refine w_sld rfl (by first | (rw [← Int32.ofInt_add, q_ofr (by omega) (by omega)]; omega) | (rw [w_nat (by omega)]; omega)) (by first | (rw [← Int32.ofInt_add, q_ofr (by omega) (by omega)]; omega) | (rw [w_nat (by omega)]; omega)) ?_
        show w_T L xs 60 m_L_law 774 [(3, .int (Int32.ofInt (i : Int))), (2, .ref 100), (1, .ref 1), (0, .ref 0)] [.int (xs ((Int32.ofInt (i : Int)) + (Int32.ofInt 2)).toInt.toNat), .int (xs ((Int32.ofInt (i : Int)) + (Int32.ofInt 1)).toInt.toNat), .ref 1] S R Q
        refine w_cv rfl (by decide) mt_X11_nurseIs v_tyC rfl rfl rfl (Nat.le_of_ble_eq_true rfl) (Nat.le_of_ble_eq_true rfl) (Nat.le_of_ble_eq_true rfl) ?_
        show w_T L xs _ m_X11_nurseIs 0 (lv_args 0 [.ref 1, .int (xs ((Int32.ofInt (i : Int)) + (Int32.ofInt 1)).toInt.toNat), .int (xs ((Int32.ofInt (i : Int)) + (Int32.ofInt 2)).toInt.toNat)]) [] S R _
        refine w_met (v_met 60 130 rw_157 (List.mem_of_getElem? (i := 0) rfl) (Nat.le_of_ble_eq_true rfl)) (Nat.le_of_ble_eq_true rfl) mt_X11_nurseIs ⟨rfl, ⟨_, rfl, (q_rng _).1, (q_rng _).2⟩, ⟨_, rfl, (q_rng _).1, (q_rng _).2⟩, trivial⟩ hT hO (fun r S1 R1 hT1 hO1 hr hF1 => ?_)
        obtain ⟨u1, hr, -, -⟩ := hr
        subst hr
        have hK1 : S1 0 14 = S1 99 92 := by rw [(hF1 0 14 (by decide +kernel)).1, (hF1 99 92 (by decide +kernel)).1]; exact hK
        refine w_st rfl (fun _ => rfl) ?_
        refine w_st rfl (fun _ => rfl) ?_
        refine w_st rfl (fun _ => rfl) ?_
        refine w_st rfl (fun _ => rfl) ?_
        refine w_st rfl (fun _ => rfl) ?_
        refine w_st rfl (fun _ => rfl) ?_
        show w_T L xs 60 m_L_law 783 [(3, .int (Int32.ofInt (i : Int))), (2, .ref 100), (1, .ref 1), (0, .ref 0)] [.int ((Int32.ofInt (i : Int)) + (Int32.ofInt 1)), .ref 0, .ref 100] S1 R1 Q
        refine w_sld rfl (by first | (rw [← Int32.ofInt_add, q_ofr (by omega) (by omega)]; omega) | (rw [w_nat (by omega)]; omega)) (by first | (rw [← Int32.ofInt_add, q_ofr (by omega) (by omega)]; omega) | (rw [w_nat (by omega)]; omega)) ?_
        refine w_st rfl (fun _ => rfl) ?_
        refine w_st rfl (fun _ => rfl) ?_
        refine w_st rfl (fun _ => rfl) ?_
        refine w_st rfl (fun _ => rfl) ?_
        show w_T L xs 60 m_L_law 788 [(3, .int (Int32.ofInt (i : Int))), (2, .ref 100), (1, .ref 1), (0, .ref 0)] [.int ((Int32.ofInt (i : Int)) + (Int32.ofInt 2)), .ref 0, .int (xs ((Int32.ofInt (i : Int)) + (Int32.ofInt 1)).toInt.toNat), .ref 100] S1 R1 Q
        refine w_sld rfl (by first | (rw [← Int32.ofInt_add, q_ofr (by omega) (by omega)]; omega) | (rw [w_nat (by omega)]; omega)) (by first | (rw [← Int32.ofInt_add, q_ofr (by omega) (by omega)]; omega) | (rw [w_nat (by omega)]; omega)) ?_
        show w_T L xs 60 m_L_law 789 [(3, .int (Int32.ofInt (i : Int))), (2, .ref 100), (1, .ref 1), (0, .ref 0)] [.int (xs ((Int32.ofInt (i : Int)) + (Int32.ofInt 2)).toInt.toNat), .int (xs ((Int32.ofInt (i : Int)) + (Int32.ofInt 1)).toInt.toNat), .ref 100] S1 R1 Q
        refine w_cv rfl (by decide) mt_X12_nurseIs v_tyM rfl rfl rfl (Nat.le_of_ble_eq_true rfl) (Nat.le_of_ble_eq_true rfl) (Nat.le_of_ble_eq_true rfl) ?_
        show w_T L xs _ m_X12_nurseIs 0 (lv_args 0 [.ref 100, .int (xs ((Int32.ofInt (i : Int)) + (Int32.ofInt 1)).toInt.toNat), .int (xs ((Int32.ofInt (i : Int)) + (Int32.ofInt 2)).toInt.toNat)]) [] S1 R1 _
        refine w_met (v_met 60 247 rw_220 (List.mem_of_getElem? (i := 0) rfl) (Nat.le_of_ble_eq_true rfl)) (Nat.le_of_ble_eq_true rfl) mt_X12_nurseIs ⟨rfl, ⟨_, rfl, (q_rng _).1, (q_rng _).2⟩, ⟨_, rfl, (q_rng _).1, (q_rng _).2⟩, trivial⟩ hT1 hO1 (fun r S2 R2 hT2 hO2 hr hF2 => ?_)
        obtain ⟨u2, hr, -, -⟩ := hr
        subst hr
        have hK2 : S2 0 14 = S2 99 92 := by rw [(hF2 0 14 (by decide +kernel)).1, (hF2 99 92 (by decide +kernel)).1]; exact hK1
        refine w_st rfl (fun _ => rfl) ?_
        refine w_st rfl (fun _ => rfl) ?_
        show w_T L xs 60 m_L_law 1446 [(3, .int (Int32.ofInt (i : Int))), (2, .ref 100), (1, .ref 1), (0, .ref 0)] [] S2 R2 Q
        exact tail S2 R2 hT2 hO2 hK2
      | 16, hk =>
        obtain rfl : (763 : Int) = o := Option.some.inj hk
        refine ⟨796, by decide, ?_⟩
        refine w_st rfl (fun _ => rfl) ?_
        refine w_st rfl (fun _ => rfl) ?_
        refine w_st rfl (fun _ => rfl) ?_
        refine w_st rfl (fun _ => rfl) ?_
        refine w_st rfl (fun _ => rfl) ?_
        show w_T L xs 60 m_L_law 801 [(3, .int (Int32.ofInt (i : Int))), (2, .ref 100), (1, .ref 1), (0, .ref 0)] [.int ((Int32.ofInt (i : Int)) + (Int32.ofInt 1)), .ref 0, .ref 1] S R Q
        refine w_sld rfl (by first | (rw [← Int32.ofInt_add, q_ofr (by omega) (by omega)]; omega) | (rw [w_nat (by omega)]; omega)) (by first | (rw [← Int32.ofInt_add, q_ofr (by omega) (by omega)]; omega) | (rw [w_nat (by omega)]; omega)) ?_
        refine w_st rfl (fun _ => rfl) ?_
        refine w_st rfl (fun _ => rfl) ?_
        refine w_st rfl (fun _ => rfl) ?_
        refine w_st rfl (fun _ => rfl) ?_
        show w_T L xs 60 m_L_law 806 [(3, .int (Int32.ofInt (i : Int))), (2, .ref 100), (1, .ref 1), (0, .ref 0)] [.int ((Int32.ofInt (i : Int)) + (Int32.ofInt 2)), .ref 0, .int (xs ((Int32.ofInt (i : Int)) + (Int32.ofInt 1)).toInt.toNat), .ref 1] S R Q
        refine w_sld rfl (by first | (rw [← Int32.ofInt_add, q_ofr (by omega) (by omega)]; omega) | (rw [w_nat (by omega)]; omega)) (by first | (rw [← Int32.ofInt_add, q_ofr (by omega) (by omega)]; omega) | (rw [w_nat (by omega)]; omega)) ?_
        show w_T L xs 60 m_L_law 807 [(3, .int (Int32.ofInt (i : Int))), (2, .ref 100), (1, .ref 1), (0, .ref 0)] [.int (xs ((Int32.ofInt (i : Int)) + (Int32.ofInt 2)).toInt.toNat), .int (xs ((Int32.ofInt (i : Int)) + (Int32.ofInt 1)).toInt.toNat), .ref 1] S R Q
        refine w_cv rfl (by decide) mt_X11_quarrel v_tyC rfl rfl rfl (Nat.le_of_ble_eq_true rfl) (Nat.le_of_ble_eq_true rfl) (Nat.le_of_ble_eq_true rfl) ?_
        show w_T L xs _ m_X11_quarrel 0 (lv_args 0 [.ref 1, .int (xs ((Int32.ofInt (i : Int)) + (Int32.ofInt 1)).toInt.toNat), .int (xs ((Int32.ofInt (i : Int)) + (Int32.ofInt 2)).toInt.toNat)]) [] S R _
        refine w_met (v_met 60 131 rw_158 (List.mem_of_getElem? (i := 0) rfl) (Nat.le_of_ble_eq_true rfl)) (Nat.le_of_ble_eq_true rfl) mt_X11_quarrel ⟨rfl, ⟨_, rfl, (q_rng _).1, (q_rng _).2⟩, ⟨_, rfl, (q_rng _).1, (q_rng _).2⟩, trivial⟩ hT hO (fun r S1 R1 hT1 hO1 hr hF1 => ?_)
        obtain ⟨u1, hr, -, -⟩ := hr
        subst hr
        have hK1 : S1 0 14 = S1 99 92 := by rw [(hF1 0 14 (by decide +kernel)).1, (hF1 99 92 (by decide +kernel)).1]; exact hK
        refine w_st rfl (fun _ => rfl) ?_
        refine w_st rfl (fun _ => rfl) ?_
        refine w_st rfl (fun _ => rfl) ?_
        refine w_st rfl (fun _ => rfl) ?_
        refine w_st rfl (fun _ => rfl) ?_
        refine w_st rfl (fun _ => rfl) ?_
        show w_T L xs 60 m_L_law 816 [(3, .int (Int32.ofInt (i : Int))), (2, .ref 100), (1, .ref 1), (0, .ref 0)] [.int ((Int32.ofInt (i : Int)) + (Int32.ofInt 1)), .ref 0, .ref 100] S1 R1 Q
        refine w_sld rfl (by first | (rw [← Int32.ofInt_add, q_ofr (by omega) (by omega)]; omega) | (rw [w_nat (by omega)]; omega)) (by first | (rw [← Int32.ofInt_add, q_ofr (by omega) (by omega)]; omega) | (rw [w_nat (by omega)]; omega)) ?_
        refine w_st rfl (fun _ => rfl) ?_
        refine w_st rfl (fun _ => rfl) ?_
        refine w_st rfl (fun _ => rfl) ?_
        refine w_st rfl (fun _ => rfl) ?_
        show w_T L xs 60 m_L_law 821 [(3, .int (Int32.ofInt (i : Int))), (2, .ref 100), (1, .ref 1), (0, .ref 0)] [.int ((Int32.ofInt (i : Int)) + (Int32.ofInt 2)), .ref 0, .int (xs ((Int32.ofInt (i : Int)) + (Int32.ofInt 1)).toInt.toNat), .ref 100] S1 R1 Q
        refine w_sld rfl (by first | (rw [← Int32.ofInt_add, q_ofr (by omega) (by omega)]; omega) | (rw [w_nat (by omega)]; omega)) (by first | (rw [← Int32.ofInt_add, q_ofr (by omega) (by omega)]; omega) | (rw [w_nat (by omega)]; omega)) ?_
        show w_T L xs 60 m_L_law 822 [(3, .int (Int32.ofInt (i : Int))), (2, .ref 100), (1, .ref 1), (0, .ref 0)] [.int (xs ((Int32.ofInt (i : Int)) + (Int32.ofInt 2)).toInt.toNat), .int (xs ((Int32.ofInt (i : Int)) + (Int32.ofInt 1)).toInt.toNat), .ref 100] S1 R1 Q
        refine w_cv rfl (by decide) mt_X12_quarrel v_tyM rfl rfl rfl (Nat.le_of_ble_eq_true rfl) (Nat.le_of_ble_eq_true rfl) (Nat.le_of_ble_eq_true rfl) ?_
        show w_T L xs _ m_X12_quarrel 0 (lv_args 0 [.ref 100, .int (xs ((Int32.ofInt (i : Int)) + (Int32.ofInt 1)).toInt.toNat), .int (xs ((Int32.ofInt (i : Int)) + (Int32.ofInt 2)).toInt.toNat)]) [] S1 R1 _
        refine w_met (v_met 60 248 rw_221 (List.mem_of_getElem? (i := 0) rfl) (Nat.le_of_ble_eq_true rfl)) (Nat.le_of_ble_eq_true rfl) mt_X12_quarrel ⟨rfl, ⟨_, rfl, (q_rng _).1, (q_rng _).2⟩, ⟨_, rfl, (q_rng _).1, (q_rng _).2⟩, trivial⟩ hT1 hO1 (fun r S2 R2 hT2 hO2 hr hF2 => ?_)
        obtain ⟨u2, hr, -, -⟩ := hr
        subst hr
        have hK2 : S2 0 14 = S2 99 92 := by rw [(hF2 0 14 (by decide +kernel)).1, (hF2 99 92 (by decide +kernel)).1]; exact hK1
        refine w_st rfl (fun _ => rfl) ?_
        refine w_st rfl (fun _ => rfl) ?_
        show w_T L xs 60 m_L_law 1446 [(3, .int (Int32.ofInt (i : Int))), (2, .ref 100), (1, .ref 1), (0, .ref 0)] [] S2 R2 Q
        exact tail S2 R2 hT2 hO2 hK2
      | 17, hk =>
        obtain rfl : (796 : Int) = o := Option.some.inj hk
        refine ⟨829, by decide, ?_⟩
        refine w_st rfl (fun _ => rfl) ?_
        refine w_st rfl (fun _ => rfl) ?_
        refine w_st rfl (fun _ => rfl) ?_
        refine w_st rfl (fun _ => rfl) ?_
        refine w_st rfl (fun _ => rfl) ?_
        show w_T L xs 60 m_L_law 834 [(3, .int (Int32.ofInt (i : Int))), (2, .ref 100), (1, .ref 1), (0, .ref 0)] [.int ((Int32.ofInt (i : Int)) + (Int32.ofInt 1)), .ref 0, .ref 1] S R Q
        refine w_sld rfl (by first | (rw [← Int32.ofInt_add, q_ofr (by omega) (by omega)]; omega) | (rw [w_nat (by omega)]; omega)) (by first | (rw [← Int32.ofInt_add, q_ofr (by omega) (by omega)]; omega) | (rw [w_nat (by omega)]; omega)) ?_
        refine w_st rfl (fun _ => rfl) ?_
        refine w_st rfl (fun _ => rfl) ?_
        refine w_st rfl (fun _ => rfl) ?_
        refine w_st rfl (fun _ => rfl) ?_
        show w_T L xs 60 m_L_law 839 [(3, .int (Int32.ofInt (i : Int))), (2, .ref 100), (1, .ref 1), (0, .ref 0)] [.int ((Int32.ofInt (i : Int)) + (Int32.ofInt 2)), .ref 0, .int (xs ((Int32.ofInt (i : Int)) + (Int32.ofInt 1)).toInt.toNat), .ref 1] S R Q
        refine w_sld rfl (by first | (rw [← Int32.ofInt_add, q_ofr (by omega) (by omega)]; omega) | (rw [w_nat (by omega)]; omega)) (by first | (rw [← Int32.ofInt_add, q_ofr (by omega) (by omega)]; omega) | (rw [w_nat (by omega)]; omega)) ?_
        refine w_st rfl (fun _ => rfl) ?_
        refine w_st rfl (fun _ => rfl) ?_
        refine w_st rfl (fun _ => rfl) ?_
        refine w_st rfl (fun _ => rfl) ?_
        show w_T L xs 60 m_L_law 844 [(3, .int (Int32.ofInt (i : Int))), (2, .ref 100), (1, .ref 1), (0, .ref 0)] [.int ((Int32.ofInt (i : Int)) + (Int32.ofInt 3)), .ref 0, .int (xs ((Int32.ofInt (i : Int)) + (Int32.ofInt 2)).toInt.toNat), .int (xs ((Int32.ofInt (i : Int)) + (Int32.ofInt 1)).toInt.toNat), .ref 1] S R Q
        refine w_sld rfl (by first | (rw [← Int32.ofInt_add, q_ofr (by omega) (by omega)]; omega) | (rw [w_nat (by omega)]; omega)) (by first | (rw [← Int32.ofInt_add, q_ofr (by omega) (by omega)]; omega) | (rw [w_nat (by omega)]; omega)) ?_
        show w_T L xs 60 m_L_law 845 [(3, .int (Int32.ofInt (i : Int))), (2, .ref 100), (1, .ref 1), (0, .ref 0)] [.int (xs ((Int32.ofInt (i : Int)) + (Int32.ofInt 3)).toInt.toNat), .int (xs ((Int32.ofInt (i : Int)) + (Int32.ofInt 2)).toInt.toNat), .int (xs ((Int32.ofInt (i : Int)) + (Int32.ofInt 1)).toInt.toNat), .ref 1] S R Q
        refine w_cv rfl (by decide) mt_X11_housed v_tyC rfl rfl rfl (Nat.le_of_ble_eq_true rfl) (Nat.le_of_ble_eq_true rfl) (Nat.le_of_ble_eq_true rfl) ?_
        show w_T L xs _ m_X11_housed 0 (lv_args 0 [.ref 1, .int (xs ((Int32.ofInt (i : Int)) + (Int32.ofInt 1)).toInt.toNat), .int (xs ((Int32.ofInt (i : Int)) + (Int32.ofInt 2)).toInt.toNat), .int (xs ((Int32.ofInt (i : Int)) + (Int32.ofInt 3)).toInt.toNat)]) [] S R _
        refine w_met (v_met 60 134 rw_161 (List.mem_of_getElem? (i := 0) rfl) (Nat.le_of_ble_eq_true rfl)) (Nat.le_of_ble_eq_true rfl) mt_X11_housed ⟨rfl, ⟨_, rfl, (q_rng _).1, (q_rng _).2⟩, ⟨_, rfl, (q_rng _).1, (q_rng _).2⟩, ⟨_, rfl, (q_rng _).1, (q_rng _).2⟩, trivial⟩ hT hO (fun r S1 R1 hT1 hO1 hr hF1 => ?_)
        obtain ⟨u1, hr, -, -⟩ := hr
        subst hr
        have hK1 : S1 0 14 = S1 99 92 := by rw [(hF1 0 14 (by decide +kernel)).1, (hF1 99 92 (by decide +kernel)).1]; exact hK
        refine w_st rfl (fun _ => rfl) ?_
        refine w_st rfl (fun _ => rfl) ?_
        refine w_st rfl (fun _ => rfl) ?_
        refine w_st rfl (fun _ => rfl) ?_
        refine w_st rfl (fun _ => rfl) ?_
        refine w_st rfl (fun _ => rfl) ?_
        show w_T L xs 60 m_L_law 854 [(3, .int (Int32.ofInt (i : Int))), (2, .ref 100), (1, .ref 1), (0, .ref 0)] [.int ((Int32.ofInt (i : Int)) + (Int32.ofInt 1)), .ref 0, .ref 100] S1 R1 Q
        refine w_sld rfl (by first | (rw [← Int32.ofInt_add, q_ofr (by omega) (by omega)]; omega) | (rw [w_nat (by omega)]; omega)) (by first | (rw [← Int32.ofInt_add, q_ofr (by omega) (by omega)]; omega) | (rw [w_nat (by omega)]; omega)) ?_
        refine w_st rfl (fun _ => rfl) ?_
        refine w_st rfl (fun _ => rfl) ?_
        refine w_st rfl (fun _ => rfl) ?_
        refine w_st rfl (fun _ => rfl) ?_
        show w_T L xs 60 m_L_law 859 [(3, .int (Int32.ofInt (i : Int))), (2, .ref 100), (1, .ref 1), (0, .ref 0)] [.int ((Int32.ofInt (i : Int)) + (Int32.ofInt 2)), .ref 0, .int (xs ((Int32.ofInt (i : Int)) + (Int32.ofInt 1)).toInt.toNat), .ref 100] S1 R1 Q
        refine w_sld rfl (by first | (rw [← Int32.ofInt_add, q_ofr (by omega) (by omega)]; omega) | (rw [w_nat (by omega)]; omega)) (by first | (rw [← Int32.ofInt_add, q_ofr (by omega) (by omega)]; omega) | (rw [w_nat (by omega)]; omega)) ?_
        refine w_st rfl (fun _ => rfl) ?_
        refine w_st rfl (fun _ => rfl) ?_
        refine w_st rfl (fun _ => rfl) ?_
        refine w_st rfl (fun _ => rfl) ?_
        show w_T L xs 60 m_L_law 864 [(3, .int (Int32.ofInt (i : Int))), (2, .ref 100), (1, .ref 1), (0, .ref 0)] [.int ((Int32.ofInt (i : Int)) + (Int32.ofInt 3)), .ref 0, .int (xs ((Int32.ofInt (i : Int)) + (Int32.ofInt 2)).toInt.toNat), .int (xs ((Int32.ofInt (i : Int)) + (Int32.ofInt 1)).toInt.toNat), .ref 100] S1 R1 Q
        refine w_sld rfl (by first | (rw [← Int32.ofInt_add, q_ofr (by omega) (by omega)]; omega) | (rw [w_nat (by omega)]; omega)) (by first | (rw [← Int32.ofInt_add, q_ofr (by omega) (by omega)]; omega) | (rw [w_nat (by omega)]; omega)) ?_
        show w_T L xs 60 m_L_law 865 [(3, .int (Int32.ofInt (i : Int))), (2, .ref 100), (1, .ref 1), (0, .ref 0)] [.int (xs ((Int32.ofInt (i : Int)) + (Int32.ofInt 3)).toInt.toNat), .int (xs ((Int32.ofInt (i : Int)) + (Int32.ofInt 2)).toInt.toNat), .int (xs ((Int32.ofInt (i : Int)) + (Int32.ofInt 1)).toInt.toNat), .ref 100] S1 R1 Q
        refine w_cv rfl (by decide) mt_X12_housed v_tyM rfl rfl rfl (Nat.le_of_ble_eq_true rfl) (Nat.le_of_ble_eq_true rfl) (Nat.le_of_ble_eq_true rfl) ?_
        show w_T L xs _ m_X12_housed 0 (lv_args 0 [.ref 100, .int (xs ((Int32.ofInt (i : Int)) + (Int32.ofInt 1)).toInt.toNat), .int (xs ((Int32.ofInt (i : Int)) + (Int32.ofInt 2)).toInt.toNat), .int (xs ((Int32.ofInt (i : Int)) + (Int32.ofInt 3)).toInt.toNat)]) [] S1 R1 _
        refine w_met (v_met 60 259 rw_228 (List.mem_of_getElem? (i := 0) rfl) (Nat.le_of_ble_eq_true rfl)) (Nat.le_of_ble_eq_true rfl) mt_X12_housed ⟨rfl, ⟨_, rfl, (q_rng _).1, (q_rng _).2⟩, ⟨_, rfl, (q_rng _).1, (q_rng _).2⟩, ⟨_, rfl, (q_rng _).1, (q_rng _).2⟩, trivial⟩ hT1 hO1 (fun r S2 R2 hT2 hO2 hr hF2 => ?_)
        obtain ⟨u2, hr, -, -⟩ := hr
        subst hr
        have hK2 : S2 0 14 = S2 99 92 := by rw [(hF2 0 14 (by decide +kernel)).1, (hF2 99 92 (by decide +kernel)).1]; exact hK1
        refine w_st rfl (fun _ => rfl) ?_
        refine w_st rfl (fun _ => rfl) ?_
        show w_T L xs 60 m_L_law 1446 [(3, .int (Int32.ofInt (i : Int))), (2, .ref 100), (1, .ref 1), (0, .ref 0)] [] S2 R2 Q
        exact tail S2 R2 hT2 hO2 hK2
      | 18, hk =>
        obtain rfl : (839 : Int) = o := Option.some.inj hk
        refine ⟨872, by decide, ?_⟩
        refine w_st rfl (fun _ => rfl) ?_
        refine w_st rfl (fun _ => rfl) ?_
        refine w_st rfl (fun _ => rfl) ?_
        refine w_st rfl (fun _ => rfl) ?_
        refine w_st rfl (fun _ => rfl) ?_
        show w_T L xs 60 m_L_law 877 [(3, .int (Int32.ofInt (i : Int))), (2, .ref 100), (1, .ref 1), (0, .ref 0)] [.int ((Int32.ofInt (i : Int)) + (Int32.ofInt 1)), .ref 0, .ref 1] S R Q
        refine w_sld rfl (by first | (rw [← Int32.ofInt_add, q_ofr (by omega) (by omega)]; omega) | (rw [w_nat (by omega)]; omega)) (by first | (rw [← Int32.ofInt_add, q_ofr (by omega) (by omega)]; omega) | (rw [w_nat (by omega)]; omega)) ?_
        refine w_st rfl (fun _ => rfl) ?_
        refine w_st rfl (fun _ => rfl) ?_
        refine w_st rfl (fun _ => rfl) ?_
        refine w_st rfl (fun _ => rfl) ?_
        show w_T L xs 60 m_L_law 882 [(3, .int (Int32.ofInt (i : Int))), (2, .ref 100), (1, .ref 1), (0, .ref 0)] [.int ((Int32.ofInt (i : Int)) + (Int32.ofInt 2)), .ref 0, .int (xs ((Int32.ofInt (i : Int)) + (Int32.ofInt 1)).toInt.toNat), .ref 1] S R Q
        refine w_sld rfl (by first | (rw [← Int32.ofInt_add, q_ofr (by omega) (by omega)]; omega) | (rw [w_nat (by omega)]; omega)) (by first | (rw [← Int32.ofInt_add, q_ofr (by omega) (by omega)]; omega) | (rw [w_nat (by omega)]; omega)) ?_
        refine w_st rfl (fun _ => rfl) ?_
        refine w_st rfl (fun _ => rfl) ?_
        refine w_st rfl (fun _ => rfl) ?_
        refine w_st rfl (fun _ => rfl) ?_
        show w_T L xs 60 m_L_law 887 [(3, .int (Int32.ofInt (i : Int))), (2, .ref 100), (1, .ref 1), (0, .ref 0)] [.int ((Int32.ofInt (i : Int)) + (Int32.ofInt 3)), .ref 0, .int (xs ((Int32.ofInt (i : Int)) + (Int32.ofInt 2)).toInt.toNat), .int (xs ((Int32.ofInt (i : Int)) + (Int32.ofInt 1)).toInt.toNat), .ref 1] S R Q
        refine w_sld rfl (by first | (rw [← Int32.ofInt_add, q_ofr (by omega) (by omega)]; omega) | (rw [w_nat (by omega)]; omega)) (by first | (rw [← Int32.ofInt_add, q_ofr (by omega) (by omega)]; omega) | (rw [w_nat (by omega)]; omega)) ?_
        show w_T L xs 60 m_L_law 888 [(3, .int (Int32.ofInt (i : Int))), (2, .ref 100), (1, .ref 1), (0, .ref 0)] [.int (xs ((Int32.ofInt (i : Int)) + (Int32.ofInt 3)).toInt.toNat), .int (xs ((Int32.ofInt (i : Int)) + (Int32.ofInt 2)).toInt.toNat), .int (xs ((Int32.ofInt (i : Int)) + (Int32.ofInt 1)).toInt.toNat), .ref 1] S R Q
        refine w_cv rfl (by decide) mt_X11_wind v_tyC rfl rfl rfl (Nat.le_of_ble_eq_true rfl) (Nat.le_of_ble_eq_true rfl) (Nat.le_of_ble_eq_true rfl) ?_
        show w_T L xs _ m_X11_wind 0 (lv_args 0 [.ref 1, .int (xs ((Int32.ofInt (i : Int)) + (Int32.ofInt 1)).toInt.toNat), .int (xs ((Int32.ofInt (i : Int)) + (Int32.ofInt 2)).toInt.toNat), .int (xs ((Int32.ofInt (i : Int)) + (Int32.ofInt 3)).toInt.toNat)]) [] S R _
        refine w_met (v_met 60 118 rw_145 (List.mem_of_getElem? (i := 0) rfl) (Nat.le_of_ble_eq_true rfl)) (Nat.le_of_ble_eq_true rfl) mt_X11_wind ⟨rfl, ⟨_, rfl, (q_rng _).1, (q_rng _).2⟩, ⟨_, rfl, (q_rng _).1, (q_rng _).2⟩, ⟨_, rfl, (q_rng _).1, (q_rng _).2⟩, trivial⟩ hT hO (fun r S1 R1 hT1 hO1 hr hF1 => ?_)
        obtain ⟨u1, hr, -, -⟩ := hr
        subst hr
        have hK1 : S1 0 14 = S1 99 92 := by rw [(hF1 0 14 (by decide +kernel)).1, (hF1 99 92 (by decide +kernel)).1]; exact hK
        refine w_st rfl (fun _ => rfl) ?_
        refine w_st rfl (fun _ => rfl) ?_
        refine w_st rfl (fun _ => rfl) ?_
        refine w_st rfl (fun _ => rfl) ?_
        refine w_st rfl (fun _ => rfl) ?_
        refine w_st rfl (fun _ => rfl) ?_
        show w_T L xs 60 m_L_law 897 [(3, .int (Int32.ofInt (i : Int))), (2, .ref 100), (1, .ref 1), (0, .ref 0)] [.int ((Int32.ofInt (i : Int)) + (Int32.ofInt 1)), .ref 0, .ref 100] S1 R1 Q
        refine w_sld rfl (by first | (rw [← Int32.ofInt_add, q_ofr (by omega) (by omega)]; omega) | (rw [w_nat (by omega)]; omega)) (by first | (rw [← Int32.ofInt_add, q_ofr (by omega) (by omega)]; omega) | (rw [w_nat (by omega)]; omega)) ?_
        refine w_st rfl (fun _ => rfl) ?_
        refine w_st rfl (fun _ => rfl) ?_
        refine w_st rfl (fun _ => rfl) ?_
        refine w_st rfl (fun _ => rfl) ?_
        show w_T L xs 60 m_L_law 902 [(3, .int (Int32.ofInt (i : Int))), (2, .ref 100), (1, .ref 1), (0, .ref 0)] [.int ((Int32.ofInt (i : Int)) + (Int32.ofInt 2)), .ref 0, .int (xs ((Int32.ofInt (i : Int)) + (Int32.ofInt 1)).toInt.toNat), .ref 100] S1 R1 Q
        refine w_sld rfl (by first | (rw [← Int32.ofInt_add, q_ofr (by omega) (by omega)]; omega) | (rw [w_nat (by omega)]; omega)) (by first | (rw [← Int32.ofInt_add, q_ofr (by omega) (by omega)]; omega) | (rw [w_nat (by omega)]; omega)) ?_
        refine w_st rfl (fun _ => rfl) ?_
        refine w_st rfl (fun _ => rfl) ?_
        refine w_st rfl (fun _ => rfl) ?_
        refine w_st rfl (fun _ => rfl) ?_
        show w_T L xs 60 m_L_law 907 [(3, .int (Int32.ofInt (i : Int))), (2, .ref 100), (1, .ref 1), (0, .ref 0)] [.int ((Int32.ofInt (i : Int)) + (Int32.ofInt 3)), .ref 0, .int (xs ((Int32.ofInt (i : Int)) + (Int32.ofInt 2)).toInt.toNat), .int (xs ((Int32.ofInt (i : Int)) + (Int32.ofInt 1)).toInt.toNat), .ref 100] S1 R1 Q
        refine w_sld rfl (by first | (rw [← Int32.ofInt_add, q_ofr (by omega) (by omega)]; omega) | (rw [w_nat (by omega)]; omega)) (by first | (rw [← Int32.ofInt_add, q_ofr (by omega) (by omega)]; omega) | (rw [w_nat (by omega)]; omega)) ?_
        show w_T L xs 60 m_L_law 908 [(3, .int (Int32.ofInt (i : Int))), (2, .ref 100), (1, .ref 1), (0, .ref 0)] [.int (xs ((Int32.ofInt (i : Int)) + (Int32.ofInt 3)).toInt.toNat), .int (xs ((Int32.ofInt (i : Int)) + (Int32.ofInt 2)).toInt.toNat), .int (xs ((Int32.ofInt (i : Int)) + (Int32.ofInt 1)).toInt.toNat), .ref 100] S1 R1 Q
        refine w_cv rfl (by decide) mt_X12_wind v_tyM rfl rfl rfl (Nat.le_of_ble_eq_true rfl) (Nat.le_of_ble_eq_true rfl) (Nat.le_of_ble_eq_true rfl) ?_
        show w_T L xs _ m_X12_wind 0 (lv_args 0 [.ref 100, .int (xs ((Int32.ofInt (i : Int)) + (Int32.ofInt 1)).toInt.toNat), .int (xs ((Int32.ofInt (i : Int)) + (Int32.ofInt 2)).toInt.toNat), .int (xs ((Int32.ofInt (i : Int)) + (Int32.ofInt 3)).toInt.toNat)]) [] S1 R1 _
        refine w_met (v_met 60 260 rw_229 (List.mem_of_getElem? (i := 0) rfl) (Nat.le_of_ble_eq_true rfl)) (Nat.le_of_ble_eq_true rfl) mt_X12_wind ⟨rfl, ⟨_, rfl, (q_rng _).1, (q_rng _).2⟩, ⟨_, rfl, (q_rng _).1, (q_rng _).2⟩, ⟨_, rfl, (q_rng _).1, (q_rng _).2⟩, trivial⟩ hT1 hO1 (fun r S2 R2 hT2 hO2 hr hF2 => ?_)
        obtain ⟨u2, hr, -, -⟩ := hr
        subst hr
        have hK2 : S2 0 14 = S2 99 92 := by rw [(hF2 0 14 (by decide +kernel)).1, (hF2 99 92 (by decide +kernel)).1]; exact hK1
        refine w_st rfl (fun _ => rfl) ?_
        refine w_st rfl (fun _ => rfl) ?_
        show w_T L xs 60 m_L_law 1446 [(3, .int (Int32.ofInt (i : Int))), (2, .ref 100), (1, .ref 1), (0, .ref 0)] [] S2 R2 Q
        exact tail S2 R2 hT2 hO2 hK2
      | 19, hk =>
        obtain rfl : (882 : Int) = o := Option.some.inj hk
        refine ⟨915, by decide, ?_⟩
        refine w_st rfl (fun _ => rfl) ?_
        refine w_st rfl (fun _ => rfl) ?_
        refine w_st rfl (fun _ => rfl) ?_
        refine w_st rfl (fun _ => rfl) ?_
        refine w_st rfl (fun _ => rfl) ?_
        show w_T L xs 60 m_L_law 920 [(3, .int (Int32.ofInt (i : Int))), (2, .ref 100), (1, .ref 1), (0, .ref 0)] [.int ((Int32.ofInt (i : Int)) + (Int32.ofInt 1)), .ref 0, .ref 1] S R Q
        refine w_sld rfl (by first | (rw [← Int32.ofInt_add, q_ofr (by omega) (by omega)]; omega) | (rw [w_nat (by omega)]; omega)) (by first | (rw [← Int32.ofInt_add, q_ofr (by omega) (by omega)]; omega) | (rw [w_nat (by omega)]; omega)) ?_
        refine w_st rfl (fun _ => rfl) ?_
        refine w_st rfl (fun _ => rfl) ?_
        refine w_st rfl (fun _ => rfl) ?_
        refine w_st rfl (fun _ => rfl) ?_
        show w_T L xs 60 m_L_law 925 [(3, .int (Int32.ofInt (i : Int))), (2, .ref 100), (1, .ref 1), (0, .ref 0)] [.int ((Int32.ofInt (i : Int)) + (Int32.ofInt 2)), .ref 0, .int (xs ((Int32.ofInt (i : Int)) + (Int32.ofInt 1)).toInt.toNat), .ref 1] S R Q
        refine w_sld rfl (by first | (rw [← Int32.ofInt_add, q_ofr (by omega) (by omega)]; omega) | (rw [w_nat (by omega)]; omega)) (by first | (rw [← Int32.ofInt_add, q_ofr (by omega) (by omega)]; omega) | (rw [w_nat (by omega)]; omega)) ?_
        show w_T L xs 60 m_L_law 926 [(3, .int (Int32.ofInt (i : Int))), (2, .ref 100), (1, .ref 1), (0, .ref 0)] [.int (xs ((Int32.ofInt (i : Int)) + (Int32.ofInt 2)).toInt.toNat), .int (xs ((Int32.ofInt (i : Int)) + (Int32.ofInt 1)).toInt.toNat), .ref 1] S R Q
        refine w_cv rfl (by decide) mt_X11_leaving v_tyC rfl rfl rfl (Nat.le_of_ble_eq_true rfl) (Nat.le_of_ble_eq_true rfl) (Nat.le_of_ble_eq_true rfl) ?_
        show w_T L xs _ m_X11_leaving 0 (lv_args 0 [.ref 1, .int (xs ((Int32.ofInt (i : Int)) + (Int32.ofInt 1)).toInt.toNat), .int (xs ((Int32.ofInt (i : Int)) + (Int32.ofInt 2)).toInt.toNat)]) [] S R _
        refine w_met (v_met 60 135 rw_162 (List.mem_of_getElem? (i := 0) rfl) (Nat.le_of_ble_eq_true rfl)) (Nat.le_of_ble_eq_true rfl) mt_X11_leaving ⟨rfl, ⟨_, rfl, (q_rng _).1, (q_rng _).2⟩, ⟨_, rfl, (q_rng _).1, (q_rng _).2⟩, trivial⟩ hT hO (fun r S1 R1 hT1 hO1 hr hF1 => ?_)
        obtain ⟨u1, hr, -, -⟩ := hr
        subst hr
        have hK1 : S1 0 14 = S1 99 92 := by rw [(hF1 0 14 (by decide +kernel)).1, (hF1 99 92 (by decide +kernel)).1]; exact hK
        refine w_st rfl (fun _ => rfl) ?_
        refine w_st rfl (fun _ => rfl) ?_
        refine w_st rfl (fun _ => rfl) ?_
        refine w_st rfl (fun _ => rfl) ?_
        refine w_st rfl (fun _ => rfl) ?_
        refine w_st rfl (fun _ => rfl) ?_
        show w_T L xs 60 m_L_law 935 [(3, .int (Int32.ofInt (i : Int))), (2, .ref 100), (1, .ref 1), (0, .ref 0)] [.int ((Int32.ofInt (i : Int)) + (Int32.ofInt 1)), .ref 0, .ref 100] S1 R1 Q
        refine w_sld rfl (by first | (rw [← Int32.ofInt_add, q_ofr (by omega) (by omega)]; omega) | (rw [w_nat (by omega)]; omega)) (by first | (rw [← Int32.ofInt_add, q_ofr (by omega) (by omega)]; omega) | (rw [w_nat (by omega)]; omega)) ?_
        refine w_st rfl (fun _ => rfl) ?_
        refine w_st rfl (fun _ => rfl) ?_
        refine w_st rfl (fun _ => rfl) ?_
        refine w_st rfl (fun _ => rfl) ?_
        show w_T L xs 60 m_L_law 940 [(3, .int (Int32.ofInt (i : Int))), (2, .ref 100), (1, .ref 1), (0, .ref 0)] [.int ((Int32.ofInt (i : Int)) + (Int32.ofInt 2)), .ref 0, .int (xs ((Int32.ofInt (i : Int)) + (Int32.ofInt 1)).toInt.toNat), .ref 100] S1 R1 Q
        refine w_sld rfl (by first | (rw [← Int32.ofInt_add, q_ofr (by omega) (by omega)]; omega) | (rw [w_nat (by omega)]; omega)) (by first | (rw [← Int32.ofInt_add, q_ofr (by omega) (by omega)]; omega) | (rw [w_nat (by omega)]; omega)) ?_
        show w_T L xs 60 m_L_law 941 [(3, .int (Int32.ofInt (i : Int))), (2, .ref 100), (1, .ref 1), (0, .ref 0)] [.int (xs ((Int32.ofInt (i : Int)) + (Int32.ofInt 2)).toInt.toNat), .int (xs ((Int32.ofInt (i : Int)) + (Int32.ofInt 1)).toInt.toNat), .ref 100] S1 R1 Q
        refine w_cv rfl (by decide) mt_X12_leaving v_tyM rfl rfl rfl (Nat.le_of_ble_eq_true rfl) (Nat.le_of_ble_eq_true rfl) (Nat.le_of_ble_eq_true rfl) ?_
        show w_T L xs _ m_X12_leaving 0 (lv_args 0 [.ref 100, .int (xs ((Int32.ofInt (i : Int)) + (Int32.ofInt 1)).toInt.toNat), .int (xs ((Int32.ofInt (i : Int)) + (Int32.ofInt 2)).toInt.toNat)]) [] S1 R1 _
        refine w_met (v_met 60 264 rw_232 (List.mem_of_getElem? (i := 0) rfl) (Nat.le_of_ble_eq_true rfl)) (Nat.le_of_ble_eq_true rfl) mt_X12_leaving ⟨rfl, ⟨_, rfl, (q_rng _).1, (q_rng _).2⟩, ⟨_, rfl, (q_rng _).1, (q_rng _).2⟩, trivial⟩ hT1 hO1 (fun r S2 R2 hT2 hO2 hr hF2 => ?_)
        obtain ⟨u2, hr, -, -⟩ := hr
        subst hr
        have hK2 : S2 0 14 = S2 99 92 := by rw [(hF2 0 14 (by decide +kernel)).1, (hF2 99 92 (by decide +kernel)).1]; exact hK1
        refine w_st rfl (fun _ => rfl) ?_
        refine w_st rfl (fun _ => rfl) ?_
        show w_T L xs 60 m_L_law 1446 [(3, .int (Int32.ofInt (i : Int))), (2, .ref 100), (1, .ref 1), (0, .ref 0)] [] S2 R2 Q
        exact tail S2 R2 hT2 hO2 hK2
      | 20, hk =>
        obtain rfl : (915 : Int) = o := Option.some.inj hk
        refine ⟨948, by decide, ?_⟩
        refine w_st rfl (fun _ => rfl) ?_
        refine w_st rfl (fun _ => rfl) ?_
        refine w_st rfl (fun _ => rfl) ?_
        refine w_st rfl (fun _ => rfl) ?_
        refine w_st rfl (fun _ => rfl) ?_
        show w_T L xs 60 m_L_law 953 [(3, .int (Int32.ofInt (i : Int))), (2, .ref 100), (1, .ref 1), (0, .ref 0)] [.int ((Int32.ofInt (i : Int)) + (Int32.ofInt 1)), .ref 0, .ref 1] S R Q
        refine w_sld rfl (by first | (rw [← Int32.ofInt_add, q_ofr (by omega) (by omega)]; omega) | (rw [w_nat (by omega)]; omega)) (by first | (rw [← Int32.ofInt_add, q_ofr (by omega) (by omega)]; omega) | (rw [w_nat (by omega)]; omega)) ?_
        show w_T L xs 60 m_L_law 954 [(3, .int (Int32.ofInt (i : Int))), (2, .ref 100), (1, .ref 1), (0, .ref 0)] [.int (xs ((Int32.ofInt (i : Int)) + (Int32.ofInt 1)).toInt.toNat), .ref 1] S R Q
        refine w_cv rfl (by decide) mt_X11_letGo v_tyC rfl rfl rfl (Nat.le_of_ble_eq_true rfl) (Nat.le_of_ble_eq_true rfl) (Nat.le_of_ble_eq_true rfl) ?_
        show w_T L xs _ m_X11_letGo 0 (lv_args 0 [.ref 1, .int (xs ((Int32.ofInt (i : Int)) + (Int32.ofInt 1)).toInt.toNat)]) [] S R _
        refine w_met (v_met 60 136 rw_163 (List.mem_of_getElem? (i := 0) rfl) (Nat.le_of_ble_eq_true rfl)) (Nat.le_of_ble_eq_true rfl) mt_X11_letGo ⟨rfl, ⟨_, rfl, (q_rng _).1, (q_rng _).2⟩, trivial⟩ hT hO (fun r S1 R1 hT1 hO1 hr hF1 => ?_)
        obtain ⟨u1, hr, -, -⟩ := hr
        subst hr
        have hK1 : S1 0 14 = S1 99 92 := by rw [(hF1 0 14 (by decide +kernel)).1, (hF1 99 92 (by decide +kernel)).1]; exact hK
        refine w_st rfl (fun _ => rfl) ?_
        refine w_st rfl (fun _ => rfl) ?_
        refine w_st rfl (fun _ => rfl) ?_
        refine w_st rfl (fun _ => rfl) ?_
        refine w_st rfl (fun _ => rfl) ?_
        refine w_st rfl (fun _ => rfl) ?_
        show w_T L xs 60 m_L_law 963 [(3, .int (Int32.ofInt (i : Int))), (2, .ref 100), (1, .ref 1), (0, .ref 0)] [.int ((Int32.ofInt (i : Int)) + (Int32.ofInt 1)), .ref 0, .ref 100] S1 R1 Q
        refine w_sld rfl (by first | (rw [← Int32.ofInt_add, q_ofr (by omega) (by omega)]; omega) | (rw [w_nat (by omega)]; omega)) (by first | (rw [← Int32.ofInt_add, q_ofr (by omega) (by omega)]; omega) | (rw [w_nat (by omega)]; omega)) ?_
        show w_T L xs 60 m_L_law 964 [(3, .int (Int32.ofInt (i : Int))), (2, .ref 100), (1, .ref 1), (0, .ref 0)] [.int (xs ((Int32.ofInt (i : Int)) + (Int32.ofInt 1)).toInt.toNat), .ref 100] S1 R1 Q
        refine w_cv rfl (by decide) mt_X12_letGo v_tyM rfl rfl rfl (Nat.le_of_ble_eq_true rfl) (Nat.le_of_ble_eq_true rfl) (Nat.le_of_ble_eq_true rfl) ?_
        show w_T L xs _ m_X12_letGo 0 (lv_args 0 [.ref 100, .int (xs ((Int32.ofInt (i : Int)) + (Int32.ofInt 1)).toInt.toNat)]) [] S1 R1 _
        refine w_met (v_met 60 265 rw_233 (List.mem_of_getElem? (i := 0) rfl) (Nat.le_of_ble_eq_true rfl)) (Nat.le_of_ble_eq_true rfl) mt_X12_letGo ⟨rfl, ⟨_, rfl, (q_rng _).1, (q_rng _).2⟩, trivial⟩ hT1 hO1 (fun r S2 R2 hT2 hO2 hr hF2 => ?_)
        obtain ⟨u2, hr, -, -⟩ := hr
        subst hr
        have hK2 : S2 0 14 = S2 99 92 := by rw [(hF2 0 14 (by decide +kernel)).1, (hF2 99 92 (by decide +kernel)).1]; exact hK1
        refine w_st rfl (fun _ => rfl) ?_
        refine w_st rfl (fun _ => rfl) ?_
        show w_T L xs 60 m_L_law 1446 [(3, .int (Int32.ofInt (i : Int))), (2, .ref 100), (1, .ref 1), (0, .ref 0)] [] S2 R2 Q
        exact tail S2 R2 hT2 hO2 hK2
      | 21, hk =>
        obtain rfl : (938 : Int) = o := Option.some.inj hk
        refine ⟨971, by decide, ?_⟩
        refine w_st rfl (fun _ => rfl) ?_
        refine w_st rfl (fun _ => rfl) ?_
        refine w_st rfl (fun _ => rfl) ?_
        refine w_st rfl (fun _ => rfl) ?_
        refine w_st rfl (fun _ => rfl) ?_
        show w_T L xs 60 m_L_law 976 [(3, .int (Int32.ofInt (i : Int))), (2, .ref 100), (1, .ref 1), (0, .ref 0)] [.int ((Int32.ofInt (i : Int)) + (Int32.ofInt 1)), .ref 0, .ref 1] S R Q
        refine w_sld rfl (by first | (rw [← Int32.ofInt_add, q_ofr (by omega) (by omega)]; omega) | (rw [w_nat (by omega)]; omega)) (by first | (rw [← Int32.ofInt_add, q_ofr (by omega) (by omega)]; omega) | (rw [w_nat (by omega)]; omega)) ?_
        refine w_st rfl (fun _ => rfl) ?_
        refine w_st rfl (fun _ => rfl) ?_
        refine w_st rfl (fun _ => rfl) ?_
        refine w_st rfl (fun _ => rfl) ?_
        show w_T L xs 60 m_L_law 981 [(3, .int (Int32.ofInt (i : Int))), (2, .ref 100), (1, .ref 1), (0, .ref 0)] [.int ((Int32.ofInt (i : Int)) + (Int32.ofInt 2)), .ref 0, .int (xs ((Int32.ofInt (i : Int)) + (Int32.ofInt 1)).toInt.toNat), .ref 1] S R Q
        refine w_sld rfl (by first | (rw [← Int32.ofInt_add, q_ofr (by omega) (by omega)]; omega) | (rw [w_nat (by omega)]; omega)) (by first | (rw [← Int32.ofInt_add, q_ofr (by omega) (by omega)]; omega) | (rw [w_nat (by omega)]; omega)) ?_
        show w_T L xs 60 m_L_law 982 [(3, .int (Int32.ofInt (i : Int))), (2, .ref 100), (1, .ref 1), (0, .ref 0)] [.int (xs ((Int32.ofInt (i : Int)) + (Int32.ofInt 2)).toInt.toNat), .int (xs ((Int32.ofInt (i : Int)) + (Int32.ofInt 1)).toInt.toNat), .ref 1] S R Q
        refine w_cv rfl (by decide) mt_X11_home v_tyC rfl rfl rfl (Nat.le_of_ble_eq_true rfl) (Nat.le_of_ble_eq_true rfl) (Nat.le_of_ble_eq_true rfl) ?_
        show w_T L xs _ m_X11_home 0 (lv_args 0 [.ref 1, .int (xs ((Int32.ofInt (i : Int)) + (Int32.ofInt 1)).toInt.toNat), .int (xs ((Int32.ofInt (i : Int)) + (Int32.ofInt 2)).toInt.toNat)]) [] S R _
        refine w_met (v_met 60 119 rw_146 (List.mem_of_getElem? (i := 0) rfl) (Nat.le_of_ble_eq_true rfl)) (Nat.le_of_ble_eq_true rfl) mt_X11_home ⟨rfl, ⟨_, rfl, (q_rng _).1, (q_rng _).2⟩, ⟨_, rfl, (q_rng _).1, (q_rng _).2⟩, trivial⟩ hT hO (fun r S1 R1 hT1 hO1 hr hF1 => ?_)
        obtain ⟨u1, hr, -, -⟩ := hr
        subst hr
        have hK1 : S1 0 14 = S1 99 92 := by rw [(hF1 0 14 (by decide +kernel)).1, (hF1 99 92 (by decide +kernel)).1]; exact hK
        refine w_st rfl (fun _ => rfl) ?_
        refine w_st rfl (fun _ => rfl) ?_
        refine w_st rfl (fun _ => rfl) ?_
        refine w_st rfl (fun _ => rfl) ?_
        refine w_st rfl (fun _ => rfl) ?_
        refine w_st rfl (fun _ => rfl) ?_
        show w_T L xs 60 m_L_law 991 [(3, .int (Int32.ofInt (i : Int))), (2, .ref 100), (1, .ref 1), (0, .ref 0)] [.int ((Int32.ofInt (i : Int)) + (Int32.ofInt 1)), .ref 0, .ref 100] S1 R1 Q
        refine w_sld rfl (by first | (rw [← Int32.ofInt_add, q_ofr (by omega) (by omega)]; omega) | (rw [w_nat (by omega)]; omega)) (by first | (rw [← Int32.ofInt_add, q_ofr (by omega) (by omega)]; omega) | (rw [w_nat (by omega)]; omega)) ?_
        refine w_st rfl (fun _ => rfl) ?_
        refine w_st rfl (fun _ => rfl) ?_
        refine w_st rfl (fun _ => rfl) ?_
        refine w_st rfl (fun _ => rfl) ?_
        show w_T L xs 60 m_L_law 996 [(3, .int (Int32.ofInt (i : Int))), (2, .ref 100), (1, .ref 1), (0, .ref 0)] [.int ((Int32.ofInt (i : Int)) + (Int32.ofInt 2)), .ref 0, .int (xs ((Int32.ofInt (i : Int)) + (Int32.ofInt 1)).toInt.toNat), .ref 100] S1 R1 Q
        refine w_sld rfl (by first | (rw [← Int32.ofInt_add, q_ofr (by omega) (by omega)]; omega) | (rw [w_nat (by omega)]; omega)) (by first | (rw [← Int32.ofInt_add, q_ofr (by omega) (by omega)]; omega) | (rw [w_nat (by omega)]; omega)) ?_
        show w_T L xs 60 m_L_law 997 [(3, .int (Int32.ofInt (i : Int))), (2, .ref 100), (1, .ref 1), (0, .ref 0)] [.int (xs ((Int32.ofInt (i : Int)) + (Int32.ofInt 2)).toInt.toNat), .int (xs ((Int32.ofInt (i : Int)) + (Int32.ofInt 1)).toInt.toNat), .ref 100] S1 R1 Q
        refine w_cv rfl (by decide) mt_X12_home v_tyM rfl rfl rfl (Nat.le_of_ble_eq_true rfl) (Nat.le_of_ble_eq_true rfl) (Nat.le_of_ble_eq_true rfl) ?_
        show w_T L xs _ m_X12_home 0 (lv_args 0 [.ref 100, .int (xs ((Int32.ofInt (i : Int)) + (Int32.ofInt 1)).toInt.toNat), .int (xs ((Int32.ofInt (i : Int)) + (Int32.ofInt 2)).toInt.toNat)]) [] S1 R1 _
        refine w_met (v_met 60 266 rw_234 (List.mem_of_getElem? (i := 0) rfl) (Nat.le_of_ble_eq_true rfl)) (Nat.le_of_ble_eq_true rfl) mt_X12_home ⟨rfl, ⟨_, rfl, (q_rng _).1, (q_rng _).2⟩, ⟨_, rfl, (q_rng _).1, (q_rng _).2⟩, trivial⟩ hT1 hO1 (fun r S2 R2 hT2 hO2 hr hF2 => ?_)
        obtain ⟨u2, hr, -, -⟩ := hr
        subst hr
        have hK2 : S2 0 14 = S2 99 92 := by rw [(hF2 0 14 (by decide +kernel)).1, (hF2 99 92 (by decide +kernel)).1]; exact hK1
        refine w_st rfl (fun _ => rfl) ?_
        refine w_st rfl (fun _ => rfl) ?_
        show w_T L xs 60 m_L_law 1446 [(3, .int (Int32.ofInt (i : Int))), (2, .ref 100), (1, .ref 1), (0, .ref 0)] [] S2 R2 Q
        exact tail S2 R2 hT2 hO2 hK2
      | 22, hk =>
        obtain rfl : (971 : Int) = o := Option.some.inj hk
        refine ⟨1004, by decide, ?_⟩
        refine w_st rfl (fun _ => rfl) ?_
        refine w_st rfl (fun _ => rfl) ?_
        refine w_st rfl (fun _ => rfl) ?_
        refine w_st rfl (fun _ => rfl) ?_
        refine w_st rfl (fun _ => rfl) ?_
        show w_T L xs 60 m_L_law 1009 [(3, .int (Int32.ofInt (i : Int))), (2, .ref 100), (1, .ref 1), (0, .ref 0)] [.int ((Int32.ofInt (i : Int)) + (Int32.ofInt 1)), .ref 0, .ref 1] S R Q
        refine w_sld rfl (by first | (rw [← Int32.ofInt_add, q_ofr (by omega) (by omega)]; omega) | (rw [w_nat (by omega)]; omega)) (by first | (rw [← Int32.ofInt_add, q_ofr (by omega) (by omega)]; omega) | (rw [w_nat (by omega)]; omega)) ?_
        refine w_st rfl (fun _ => rfl) ?_
        refine w_st rfl (fun _ => rfl) ?_
        refine w_st rfl (fun _ => rfl) ?_
        refine w_st rfl (fun _ => rfl) ?_
        show w_T L xs 60 m_L_law 1014 [(3, .int (Int32.ofInt (i : Int))), (2, .ref 100), (1, .ref 1), (0, .ref 0)] [.int ((Int32.ofInt (i : Int)) + (Int32.ofInt 2)), .ref 0, .int (xs ((Int32.ofInt (i : Int)) + (Int32.ofInt 1)).toInt.toNat), .ref 1] S R Q
        refine w_sld rfl (by first | (rw [← Int32.ofInt_add, q_ofr (by omega) (by omega)]; omega) | (rw [w_nat (by omega)]; omega)) (by first | (rw [← Int32.ofInt_add, q_ofr (by omega) (by omega)]; omega) | (rw [w_nat (by omega)]; omega)) ?_
        refine w_st rfl (fun _ => rfl) ?_
        refine w_st rfl (fun _ => rfl) ?_
        refine w_st rfl (fun _ => rfl) ?_
        refine w_st rfl (fun _ => rfl) ?_
        show w_T L xs 60 m_L_law 1019 [(3, .int (Int32.ofInt (i : Int))), (2, .ref 100), (1, .ref 1), (0, .ref 0)] [.int ((Int32.ofInt (i : Int)) + (Int32.ofInt 3)), .ref 0, .int (xs ((Int32.ofInt (i : Int)) + (Int32.ofInt 2)).toInt.toNat), .int (xs ((Int32.ofInt (i : Int)) + (Int32.ofInt 1)).toInt.toNat), .ref 1] S R Q
        refine w_sld rfl (by first | (rw [← Int32.ofInt_add, q_ofr (by omega) (by omega)]; omega) | (rw [w_nat (by omega)]; omega)) (by first | (rw [← Int32.ofInt_add, q_ofr (by omega) (by omega)]; omega) | (rw [w_nat (by omega)]; omega)) ?_
        show w_T L xs 60 m_L_law 1020 [(3, .int (Int32.ofInt (i : Int))), (2, .ref 100), (1, .ref 1), (0, .ref 0)] [.int (xs ((Int32.ofInt (i : Int)) + (Int32.ofInt 3)).toInt.toNat), .int (xs ((Int32.ofInt (i : Int)) + (Int32.ofInt 2)).toInt.toNat), .int (xs ((Int32.ofInt (i : Int)) + (Int32.ofInt 1)).toInt.toNat), .ref 1] S R Q
        refine w_cv rfl (by decide) mt_X11_from v_tyC rfl rfl rfl (Nat.le_of_ble_eq_true rfl) (Nat.le_of_ble_eq_true rfl) (Nat.le_of_ble_eq_true rfl) ?_
        show w_T L xs _ m_X11_from 0 (lv_args 0 [.ref 1, .int (xs ((Int32.ofInt (i : Int)) + (Int32.ofInt 1)).toInt.toNat), .int (xs ((Int32.ofInt (i : Int)) + (Int32.ofInt 2)).toInt.toNat), .int (xs ((Int32.ofInt (i : Int)) + (Int32.ofInt 3)).toInt.toNat)]) [] S R _
        refine w_met (v_met 60 137 rw_164 (List.mem_of_getElem? (i := 0) rfl) (Nat.le_of_ble_eq_true rfl)) (Nat.le_of_ble_eq_true rfl) mt_X11_from ⟨rfl, ⟨_, rfl, (q_rng _).1, (q_rng _).2⟩, ⟨_, rfl, (q_rng _).1, (q_rng _).2⟩, ⟨_, rfl, (q_rng _).1, (q_rng _).2⟩, trivial⟩ hT hO (fun r S1 R1 hT1 hO1 hr hF1 => ?_)
        obtain ⟨u1, hr, -, -⟩ := hr
        subst hr
        have hK1 : S1 0 14 = S1 99 92 := by rw [(hF1 0 14 (by decide +kernel)).1, (hF1 99 92 (by decide +kernel)).1]; exact hK
        refine w_st rfl (fun _ => rfl) ?_
        refine w_st rfl (fun _ => rfl) ?_
        refine w_st rfl (fun _ => rfl) ?_
        refine w_st rfl (fun _ => rfl) ?_
        refine w_st rfl (fun _ => rfl) ?_
        refine w_st rfl (fun _ => rfl) ?_
        show w_T L xs 60 m_L_law 1029 [(3, .int (Int32.ofInt (i : Int))), (2, .ref 100), (1, .ref 1), (0, .ref 0)] [.int ((Int32.ofInt (i : Int)) + (Int32.ofInt 1)), .ref 0, .ref 100] S1 R1 Q
        refine w_sld rfl (by first | (rw [← Int32.ofInt_add, q_ofr (by omega) (by omega)]; omega) | (rw [w_nat (by omega)]; omega)) (by first | (rw [← Int32.ofInt_add, q_ofr (by omega) (by omega)]; omega) | (rw [w_nat (by omega)]; omega)) ?_
        refine w_st rfl (fun _ => rfl) ?_
        refine w_st rfl (fun _ => rfl) ?_
        refine w_st rfl (fun _ => rfl) ?_
        refine w_st rfl (fun _ => rfl) ?_
        show w_T L xs 60 m_L_law 1034 [(3, .int (Int32.ofInt (i : Int))), (2, .ref 100), (1, .ref 1), (0, .ref 0)] [.int ((Int32.ofInt (i : Int)) + (Int32.ofInt 2)), .ref 0, .int (xs ((Int32.ofInt (i : Int)) + (Int32.ofInt 1)).toInt.toNat), .ref 100] S1 R1 Q
        refine w_sld rfl (by first | (rw [← Int32.ofInt_add, q_ofr (by omega) (by omega)]; omega) | (rw [w_nat (by omega)]; omega)) (by first | (rw [← Int32.ofInt_add, q_ofr (by omega) (by omega)]; omega) | (rw [w_nat (by omega)]; omega)) ?_
        refine w_st rfl (fun _ => rfl) ?_
        refine w_st rfl (fun _ => rfl) ?_
        refine w_st rfl (fun _ => rfl) ?_
        refine w_st rfl (fun _ => rfl) ?_
        show w_T L xs 60 m_L_law 1039 [(3, .int (Int32.ofInt (i : Int))), (2, .ref 100), (1, .ref 1), (0, .ref 0)] [.int ((Int32.ofInt (i : Int)) + (Int32.ofInt 3)), .ref 0, .int (xs ((Int32.ofInt (i : Int)) + (Int32.ofInt 2)).toInt.toNat), .int (xs ((Int32.ofInt (i : Int)) + (Int32.ofInt 1)).toInt.toNat), .ref 100] S1 R1 Q
        refine w_sld rfl (by first | (rw [← Int32.ofInt_add, q_ofr (by omega) (by omega)]; omega) | (rw [w_nat (by omega)]; omega)) (by first | (rw [← Int32.ofInt_add, q_ofr (by omega) (by omega)]; omega) | (rw [w_nat (by omega)]; omega)) ?_
        show w_T L xs 60 m_L_law 1040 [(3, .int (Int32.ofInt (i : Int))), (2, .ref 100), (1, .ref 1), (0, .ref 0)] [.int (xs ((Int32.ofInt (i : Int)) + (Int32.ofInt 3)).toInt.toNat), .int (xs ((Int32.ofInt (i : Int)) + (Int32.ofInt 2)).toInt.toNat), .int (xs ((Int32.ofInt (i : Int)) + (Int32.ofInt 1)).toInt.toNat), .ref 100] S1 R1 Q
        refine w_cv rfl (by decide) mt_X12_from v_tyM rfl rfl rfl (Nat.le_of_ble_eq_true rfl) (Nat.le_of_ble_eq_true rfl) (Nat.le_of_ble_eq_true rfl) ?_
        show w_T L xs _ m_X12_from 0 (lv_args 0 [.ref 100, .int (xs ((Int32.ofInt (i : Int)) + (Int32.ofInt 1)).toInt.toNat), .int (xs ((Int32.ofInt (i : Int)) + (Int32.ofInt 2)).toInt.toNat), .int (xs ((Int32.ofInt (i : Int)) + (Int32.ofInt 3)).toInt.toNat)]) [] S1 R1 _
        refine w_met (v_met 60 269 rw_237 (List.mem_of_getElem? (i := 0) rfl) (Nat.le_of_ble_eq_true rfl)) (Nat.le_of_ble_eq_true rfl) mt_X12_from ⟨rfl, ⟨_, rfl, (q_rng _).1, (q_rng _).2⟩, ⟨_, rfl, (q_rng _).1, (q_rng _).2⟩, ⟨_, rfl, (q_rng _).1, (q_rng _).2⟩, trivial⟩ hT1 hO1 (fun r S2 R2 hT2 hO2 hr hF2 => ?_)
        obtain ⟨u2, hr, -, -⟩ := hr
        subst hr
        have hK2 : S2 0 14 = S2 99 92 := by rw [(hF2 0 14 (by decide +kernel)).1, (hF2 99 92 (by decide +kernel)).1]; exact hK1
        refine w_st rfl (fun _ => rfl) ?_
        refine w_st rfl (fun _ => rfl) ?_
        show w_T L xs 60 m_L_law 1446 [(3, .int (Int32.ofInt (i : Int))), (2, .ref 100), (1, .ref 1), (0, .ref 0)] [] S2 R2 Q
        exact tail S2 R2 hT2 hO2 hK2
      | 23, hk =>
        obtain rfl : (1014 : Int) = o := Option.some.inj hk
        refine ⟨1047, by decide, ?_⟩
        refine w_st rfl (fun _ => rfl) ?_
        refine w_st rfl (fun _ => rfl) ?_
        refine w_st rfl (fun _ => rfl) ?_
        refine w_st rfl (fun _ => rfl) ?_
        refine w_st rfl (fun _ => rfl) ?_
        show w_T L xs 60 m_L_law 1052 [(3, .int (Int32.ofInt (i : Int))), (2, .ref 100), (1, .ref 1), (0, .ref 0)] [.int ((Int32.ofInt (i : Int)) + (Int32.ofInt 1)), .ref 0, .ref 1] S R Q
        refine w_sld rfl (by first | (rw [← Int32.ofInt_add, q_ofr (by omega) (by omega)]; omega) | (rw [w_nat (by omega)]; omega)) (by first | (rw [← Int32.ofInt_add, q_ofr (by omega) (by omega)]; omega) | (rw [w_nat (by omega)]; omega)) ?_
        refine w_st rfl (fun _ => rfl) ?_
        refine w_st rfl (fun _ => rfl) ?_
        refine w_st rfl (fun _ => rfl) ?_
        refine w_st rfl (fun _ => rfl) ?_
        show w_T L xs 60 m_L_law 1057 [(3, .int (Int32.ofInt (i : Int))), (2, .ref 100), (1, .ref 1), (0, .ref 0)] [.int ((Int32.ofInt (i : Int)) + (Int32.ofInt 2)), .ref 0, .int (xs ((Int32.ofInt (i : Int)) + (Int32.ofInt 1)).toInt.toNat), .ref 1] S R Q
        refine w_sld rfl (by first | (rw [← Int32.ofInt_add, q_ofr (by omega) (by omega)]; omega) | (rw [w_nat (by omega)]; omega)) (by first | (rw [← Int32.ofInt_add, q_ofr (by omega) (by omega)]; omega) | (rw [w_nat (by omega)]; omega)) ?_
        refine w_st rfl (fun _ => rfl) ?_
        refine w_st rfl (fun _ => rfl) ?_
        refine w_st rfl (fun _ => rfl) ?_
        refine w_st rfl (fun _ => rfl) ?_
        show w_T L xs 60 m_L_law 1062 [(3, .int (Int32.ofInt (i : Int))), (2, .ref 100), (1, .ref 1), (0, .ref 0)] [.int ((Int32.ofInt (i : Int)) + (Int32.ofInt 3)), .ref 0, .int (xs ((Int32.ofInt (i : Int)) + (Int32.ofInt 2)).toInt.toNat), .int (xs ((Int32.ofInt (i : Int)) + (Int32.ofInt 1)).toInt.toNat), .ref 1] S R Q
        refine w_sld rfl (by first | (rw [← Int32.ofInt_add, q_ofr (by omega) (by omega)]; omega) | (rw [w_nat (by omega)]; omega)) (by first | (rw [← Int32.ofInt_add, q_ofr (by omega) (by omega)]; omega) | (rw [w_nat (by omega)]; omega)) ?_
        show w_T L xs 60 m_L_law 1063 [(3, .int (Int32.ofInt (i : Int))), (2, .ref 100), (1, .ref 1), (0, .ref 0)] [.int (xs ((Int32.ofInt (i : Int)) + (Int32.ofInt 3)).toInt.toNat), .int (xs ((Int32.ofInt (i : Int)) + (Int32.ofInt 2)).toInt.toNat), .int (xs ((Int32.ofInt (i : Int)) + (Int32.ofInt 1)).toInt.toNat), .ref 1] S R Q
        refine w_cv rfl (by decide) mt_X11_taught v_tyC rfl rfl rfl (Nat.le_of_ble_eq_true rfl) (Nat.le_of_ble_eq_true rfl) (Nat.le_of_ble_eq_true rfl) ?_
        show w_T L xs _ m_X11_taught 0 (lv_args 0 [.ref 1, .int (xs ((Int32.ofInt (i : Int)) + (Int32.ofInt 1)).toInt.toNat), .int (xs ((Int32.ofInt (i : Int)) + (Int32.ofInt 2)).toInt.toNat), .int (xs ((Int32.ofInt (i : Int)) + (Int32.ofInt 3)).toInt.toNat)]) [] S R _
        refine w_met (v_met 60 138 rw_165 (List.mem_of_getElem? (i := 0) rfl) (Nat.le_of_ble_eq_true rfl)) (Nat.le_of_ble_eq_true rfl) mt_X11_taught ⟨rfl, ⟨_, rfl, (q_rng _).1, (q_rng _).2⟩, ⟨_, rfl, (q_rng _).1, (q_rng _).2⟩, ⟨_, rfl, (q_rng _).1, (q_rng _).2⟩, trivial⟩ hT hO (fun r S1 R1 hT1 hO1 hr hF1 => ?_)
        obtain ⟨u1, hr, -, -⟩ := hr
        subst hr
        have hK1 : S1 0 14 = S1 99 92 := by rw [(hF1 0 14 (by decide +kernel)).1, (hF1 99 92 (by decide +kernel)).1]; exact hK
        refine w_st rfl (fun _ => rfl) ?_
        refine w_st rfl (fun _ => rfl) ?_
        refine w_st rfl (fun _ => rfl) ?_
        refine w_st rfl (fun _ => rfl) ?_
        refine w_st rfl (fun _ => rfl) ?_
        refine w_st rfl (fun _ => rfl) ?_
        show w_T L xs 60 m_L_law 1072 [(3, .int (Int32.ofInt (i : Int))), (2, .ref 100), (1, .ref 1), (0, .ref 0)] [.int ((Int32.ofInt (i : Int)) + (Int32.ofInt 1)), .ref 0, .ref 100] S1 R1 Q
        refine w_sld rfl (by first | (rw [← Int32.ofInt_add, q_ofr (by omega) (by omega)]; omega) | (rw [w_nat (by omega)]; omega)) (by first | (rw [← Int32.ofInt_add, q_ofr (by omega) (by omega)]; omega) | (rw [w_nat (by omega)]; omega)) ?_
        refine w_st rfl (fun _ => rfl) ?_
        refine w_st rfl (fun _ => rfl) ?_
        refine w_st rfl (fun _ => rfl) ?_
        refine w_st rfl (fun _ => rfl) ?_
        show w_T L xs 60 m_L_law 1077 [(3, .int (Int32.ofInt (i : Int))), (2, .ref 100), (1, .ref 1), (0, .ref 0)] [.int ((Int32.ofInt (i : Int)) + (Int32.ofInt 2)), .ref 0, .int (xs ((Int32.ofInt (i : Int)) + (Int32.ofInt 1)).toInt.toNat), .ref 100] S1 R1 Q
        refine w_sld rfl (by first | (rw [← Int32.ofInt_add, q_ofr (by omega) (by omega)]; omega) | (rw [w_nat (by omega)]; omega)) (by first | (rw [← Int32.ofInt_add, q_ofr (by omega) (by omega)]; omega) | (rw [w_nat (by omega)]; omega)) ?_
        refine w_st rfl (fun _ => rfl) ?_
        refine w_st rfl (fun _ => rfl) ?_
        refine w_st rfl (fun _ => rfl) ?_
        refine w_st rfl (fun _ => rfl) ?_
        show w_T L xs 60 m_L_law 1082 [(3, .int (Int32.ofInt (i : Int))), (2, .ref 100), (1, .ref 1), (0, .ref 0)] [.int ((Int32.ofInt (i : Int)) + (Int32.ofInt 3)), .ref 0, .int (xs ((Int32.ofInt (i : Int)) + (Int32.ofInt 2)).toInt.toNat), .int (xs ((Int32.ofInt (i : Int)) + (Int32.ofInt 1)).toInt.toNat), .ref 100] S1 R1 Q
        refine w_sld rfl (by first | (rw [← Int32.ofInt_add, q_ofr (by omega) (by omega)]; omega) | (rw [w_nat (by omega)]; omega)) (by first | (rw [← Int32.ofInt_add, q_ofr (by omega) (by omega)]; omega) | (rw [w_nat (by omega)]; omega)) ?_
        show w_T L xs 60 m_L_law 1083 [(3, .int (Int32.ofInt (i : Int))), (2, .ref 100), (1, .ref 1), (0, .ref 0)] [.int (xs ((Int32.ofInt (i : Int)) + (Int32.ofInt 3)).toInt.toNat), .int (xs ((Int32.ofInt (i : Int)) + (Int32.ofInt 2)).toInt.toNat), .int (xs ((Int32.ofInt (i : Int)) + (Int32.ofInt 1)).toInt.toNat), .ref 100] S1 R1 Q
        refine w_cv rfl (by decide) mt_X12_taught v_tyM rfl rfl rfl (Nat.le_of_ble_eq_true rfl) (Nat.le_of_ble_eq_true rfl) (Nat.le_of_ble_eq_true rfl) ?_
        show w_T L xs _ m_X12_taught 0 (lv_args 0 [.ref 100, .int (xs ((Int32.ofInt (i : Int)) + (Int32.ofInt 1)).toInt.toNat), .int (xs ((Int32.ofInt (i : Int)) + (Int32.ofInt 2)).toInt.toNat), .int (xs ((Int32.ofInt (i : Int)) + (Int32.ofInt 3)).toInt.toNat)]) [] S1 R1 _
        refine w_met (v_met 60 271 rw_239 (List.mem_of_getElem? (i := 0) rfl) (Nat.le_of_ble_eq_true rfl)) (Nat.le_of_ble_eq_true rfl) mt_X12_taught ⟨rfl, ⟨_, rfl, (q_rng _).1, (q_rng _).2⟩, ⟨_, rfl, (q_rng _).1, (q_rng _).2⟩, ⟨_, rfl, (q_rng _).1, (q_rng _).2⟩, trivial⟩ hT1 hO1 (fun r S2 R2 hT2 hO2 hr hF2 => ?_)
        obtain ⟨u2, hr, -, -⟩ := hr
        subst hr
        have hK2 : S2 0 14 = S2 99 92 := by rw [(hF2 0 14 (by decide +kernel)).1, (hF2 99 92 (by decide +kernel)).1]; exact hK1
        refine w_st rfl (fun _ => rfl) ?_
        refine w_st rfl (fun _ => rfl) ?_
        show w_T L xs 60 m_L_law 1446 [(3, .int (Int32.ofInt (i : Int))), (2, .ref 100), (1, .ref 1), (0, .ref 0)] [] S2 R2 Q
        exact tail S2 R2 hT2 hO2 hK2
      | 24, hk =>
        obtain rfl : (1057 : Int) = o := Option.some.inj hk
        refine ⟨1090, by decide, ?_⟩
        refine w_st rfl (fun _ => rfl) ?_
        refine w_st rfl (fun _ => rfl) ?_
        refine w_st rfl (fun _ => rfl) ?_
        refine w_st rfl (fun _ => rfl) ?_
        refine w_st rfl (fun _ => rfl) ?_
        show w_T L xs 60 m_L_law 1095 [(3, .int (Int32.ofInt (i : Int))), (2, .ref 100), (1, .ref 1), (0, .ref 0)] [.int ((Int32.ofInt (i : Int)) + (Int32.ofInt 1)), .ref 0, .ref 1] S R Q
        refine w_sld rfl (by first | (rw [← Int32.ofInt_add, q_ofr (by omega) (by omega)]; omega) | (rw [w_nat (by omega)]; omega)) (by first | (rw [← Int32.ofInt_add, q_ofr (by omega) (by omega)]; omega) | (rw [w_nat (by omega)]; omega)) ?_
        refine w_st rfl (fun _ => rfl) ?_
        refine w_st rfl (fun _ => rfl) ?_
        refine w_st rfl (fun _ => rfl) ?_
        refine w_st rfl (fun _ => rfl) ?_
        show w_T L xs 60 m_L_law 1100 [(3, .int (Int32.ofInt (i : Int))), (2, .ref 100), (1, .ref 1), (0, .ref 0)] [.int ((Int32.ofInt (i : Int)) + (Int32.ofInt 2)), .ref 0, .int (xs ((Int32.ofInt (i : Int)) + (Int32.ofInt 1)).toInt.toNat), .ref 1] S R Q
        refine w_sld rfl (by first | (rw [← Int32.ofInt_add, q_ofr (by omega) (by omega)]; omega) | (rw [w_nat (by omega)]; omega)) (by first | (rw [← Int32.ofInt_add, q_ofr (by omega) (by omega)]; omega) | (rw [w_nat (by omega)]; omega)) ?_
        refine w_st rfl (fun _ => rfl) ?_
        refine w_st rfl (fun _ => rfl) ?_
        refine w_st rfl (fun _ => rfl) ?_
        refine w_st rfl (fun _ => rfl) ?_
        show w_T L xs 60 m_L_law 1105 [(3, .int (Int32.ofInt (i : Int))), (2, .ref 100), (1, .ref 1), (0, .ref 0)] [.int ((Int32.ofInt (i : Int)) + (Int32.ofInt 3)), .ref 0, .int (xs ((Int32.ofInt (i : Int)) + (Int32.ofInt 2)).toInt.toNat), .int (xs ((Int32.ofInt (i : Int)) + (Int32.ofInt 1)).toInt.toNat), .ref 1] S R Q
        refine w_sld rfl (by first | (rw [← Int32.ofInt_add, q_ofr (by omega) (by omega)]; omega) | (rw [w_nat (by omega)]; omega)) (by first | (rw [← Int32.ofInt_add, q_ofr (by omega) (by omega)]; omega) | (rw [w_nat (by omega)]; omega)) ?_
        show w_T L xs 60 m_L_law 1106 [(3, .int (Int32.ofInt (i : Int))), (2, .ref 100), (1, .ref 1), (0, .ref 0)] [.int (xs ((Int32.ofInt (i : Int)) + (Int32.ofInt 3)).toInt.toNat), .int (xs ((Int32.ofInt (i : Int)) + (Int32.ofInt 2)).toInt.toNat), .int (xs ((Int32.ofInt (i : Int)) + (Int32.ofInt 1)).toInt.toNat), .ref 1] S R Q
        refine w_cv rfl (by decide) mt_X11_house v_tyC rfl rfl rfl (Nat.le_of_ble_eq_true rfl) (Nat.le_of_ble_eq_true rfl) (Nat.le_of_ble_eq_true rfl) ?_
        show w_T L xs _ m_X11_house 0 (lv_args 0 [.ref 1, .int (xs ((Int32.ofInt (i : Int)) + (Int32.ofInt 1)).toInt.toNat), .int (xs ((Int32.ofInt (i : Int)) + (Int32.ofInt 2)).toInt.toNat), .int (xs ((Int32.ofInt (i : Int)) + (Int32.ofInt 3)).toInt.toNat)]) [] S R _
        refine w_met (v_met 60 120 rw_147 (List.mem_of_getElem? (i := 0) rfl) (Nat.le_of_ble_eq_true rfl)) (Nat.le_of_ble_eq_true rfl) mt_X11_house ⟨rfl, ⟨_, rfl, (q_rng _).1, (q_rng _).2⟩, ⟨_, rfl, (q_rng _).1, (q_rng _).2⟩, ⟨_, rfl, (q_rng _).1, (q_rng _).2⟩, trivial⟩ hT hO (fun r S1 R1 hT1 hO1 hr hF1 => ?_)
        obtain ⟨u1, hr, -, -⟩ := hr
        subst hr
        have hK1 : S1 0 14 = S1 99 92 := by rw [(hF1 0 14 (by decide +kernel)).1, (hF1 99 92 (by decide +kernel)).1]; exact hK
        refine w_st rfl (fun _ => rfl) ?_
        refine w_st rfl (fun _ => rfl) ?_
        refine w_st rfl (fun _ => rfl) ?_
        refine w_st rfl (fun _ => rfl) ?_
        refine w_st rfl (fun _ => rfl) ?_
        refine w_st rfl (fun _ => rfl) ?_
        show w_T L xs 60 m_L_law 1115 [(3, .int (Int32.ofInt (i : Int))), (2, .ref 100), (1, .ref 1), (0, .ref 0)] [.int ((Int32.ofInt (i : Int)) + (Int32.ofInt 1)), .ref 0, .ref 100] S1 R1 Q
        refine w_sld rfl (by first | (rw [← Int32.ofInt_add, q_ofr (by omega) (by omega)]; omega) | (rw [w_nat (by omega)]; omega)) (by first | (rw [← Int32.ofInt_add, q_ofr (by omega) (by omega)]; omega) | (rw [w_nat (by omega)]; omega)) ?_
        refine w_st rfl (fun _ => rfl) ?_
        refine w_st rfl (fun _ => rfl) ?_
        refine w_st rfl (fun _ => rfl) ?_
        refine w_st rfl (fun _ => rfl) ?_
        show w_T L xs 60 m_L_law 1120 [(3, .int (Int32.ofInt (i : Int))), (2, .ref 100), (1, .ref 1), (0, .ref 0)] [.int ((Int32.ofInt (i : Int)) + (Int32.ofInt 2)), .ref 0, .int (xs ((Int32.ofInt (i : Int)) + (Int32.ofInt 1)).toInt.toNat), .ref 100] S1 R1 Q
        refine w_sld rfl (by first | (rw [← Int32.ofInt_add, q_ofr (by omega) (by omega)]; omega) | (rw [w_nat (by omega)]; omega)) (by first | (rw [← Int32.ofInt_add, q_ofr (by omega) (by omega)]; omega) | (rw [w_nat (by omega)]; omega)) ?_
        refine w_st rfl (fun _ => rfl) ?_
        refine w_st rfl (fun _ => rfl) ?_
        refine w_st rfl (fun _ => rfl) ?_
        refine w_st rfl (fun _ => rfl) ?_
        show w_T L xs 60 m_L_law 1125 [(3, .int (Int32.ofInt (i : Int))), (2, .ref 100), (1, .ref 1), (0, .ref 0)] [.int ((Int32.ofInt (i : Int)) + (Int32.ofInt 3)), .ref 0, .int (xs ((Int32.ofInt (i : Int)) + (Int32.ofInt 2)).toInt.toNat), .int (xs ((Int32.ofInt (i : Int)) + (Int32.ofInt 1)).toInt.toNat), .ref 100] S1 R1 Q
        refine w_sld rfl (by first | (rw [← Int32.ofInt_add, q_ofr (by omega) (by omega)]; omega) | (rw [w_nat (by omega)]; omega)) (by first | (rw [← Int32.ofInt_add, q_ofr (by omega) (by omega)]; omega) | (rw [w_nat (by omega)]; omega)) ?_
        show w_T L xs 60 m_L_law 1126 [(3, .int (Int32.ofInt (i : Int))), (2, .ref 100), (1, .ref 1), (0, .ref 0)] [.int (xs ((Int32.ofInt (i : Int)) + (Int32.ofInt 3)).toInt.toNat), .int (xs ((Int32.ofInt (i : Int)) + (Int32.ofInt 2)).toInt.toNat), .int (xs ((Int32.ofInt (i : Int)) + (Int32.ofInt 1)).toInt.toNat), .ref 100] S1 R1 Q
        refine w_cv rfl (by decide) mt_X12_house v_tyM rfl rfl rfl (Nat.le_of_ble_eq_true rfl) (Nat.le_of_ble_eq_true rfl) (Nat.le_of_ble_eq_true rfl) ?_
        show w_T L xs _ m_X12_house 0 (lv_args 0 [.ref 100, .int (xs ((Int32.ofInt (i : Int)) + (Int32.ofInt 1)).toInt.toNat), .int (xs ((Int32.ofInt (i : Int)) + (Int32.ofInt 2)).toInt.toNat), .int (xs ((Int32.ofInt (i : Int)) + (Int32.ofInt 3)).toInt.toNat)]) [] S1 R1 _
        refine w_met (v_met 60 272 rw_240 (List.mem_of_getElem? (i := 0) rfl) (Nat.le_of_ble_eq_true rfl)) (Nat.le_of_ble_eq_true rfl) mt_X12_house ⟨rfl, ⟨_, rfl, (q_rng _).1, (q_rng _).2⟩, ⟨_, rfl, (q_rng _).1, (q_rng _).2⟩, ⟨_, rfl, (q_rng _).1, (q_rng _).2⟩, trivial⟩ hT1 hO1 (fun r S2 R2 hT2 hO2 hr hF2 => ?_)
        obtain ⟨u2, hr, -, -⟩ := hr
        subst hr
        have hK2 : S2 0 14 = S2 99 92 := by rw [(hF2 0 14 (by decide +kernel)).1, (hF2 99 92 (by decide +kernel)).1]; exact hK1
        refine w_st rfl (fun _ => rfl) ?_
        refine w_st rfl (fun _ => rfl) ?_
        show w_T L xs 60 m_L_law 1446 [(3, .int (Int32.ofInt (i : Int))), (2, .ref 100), (1, .ref 1), (0, .ref 0)] [] S2 R2 Q
        exact tail S2 R2 hT2 hO2 hK2
      | 25, hk =>
        obtain rfl : (1100 : Int) = o := Option.some.inj hk
        refine ⟨1133, by decide, ?_⟩
        refine w_st rfl (fun _ => rfl) ?_
        refine w_st rfl (fun _ => rfl) ?_
        refine w_st rfl (fun _ => rfl) ?_
        refine w_st rfl (fun _ => rfl) ?_
        refine w_st rfl (fun _ => rfl) ?_
        show w_T L xs 60 m_L_law 1138 [(3, .int (Int32.ofInt (i : Int))), (2, .ref 100), (1, .ref 1), (0, .ref 0)] [.int ((Int32.ofInt (i : Int)) + (Int32.ofInt 1)), .ref 0, .ref 1] S R Q
        refine w_sld rfl (by first | (rw [← Int32.ofInt_add, q_ofr (by omega) (by omega)]; omega) | (rw [w_nat (by omega)]; omega)) (by first | (rw [← Int32.ofInt_add, q_ofr (by omega) (by omega)]; omega) | (rw [w_nat (by omega)]; omega)) ?_
        refine w_st rfl (fun _ => rfl) ?_
        refine w_st rfl (fun _ => rfl) ?_
        refine w_st rfl (fun _ => rfl) ?_
        refine w_st rfl (fun _ => rfl) ?_
        show w_T L xs 60 m_L_law 1143 [(3, .int (Int32.ofInt (i : Int))), (2, .ref 100), (1, .ref 1), (0, .ref 0)] [.int ((Int32.ofInt (i : Int)) + (Int32.ofInt 2)), .ref 0, .int (xs ((Int32.ofInt (i : Int)) + (Int32.ofInt 1)).toInt.toNat), .ref 1] S R Q
        refine w_sld rfl (by first | (rw [← Int32.ofInt_add, q_ofr (by omega) (by omega)]; omega) | (rw [w_nat (by omega)]; omega)) (by first | (rw [← Int32.ofInt_add, q_ofr (by omega) (by omega)]; omega) | (rw [w_nat (by omega)]; omega)) ?_
        show w_T L xs 60 m_L_law 1144 [(3, .int (Int32.ofInt (i : Int))), (2, .ref 100), (1, .ref 1), (0, .ref 0)] [.int (xs ((Int32.ofInt (i : Int)) + (Int32.ofInt 2)).toInt.toNat), .int (xs ((Int32.ofInt (i : Int)) + (Int32.ofInt 1)).toInt.toNat), .ref 1] S R Q
        refine w_cv rfl (by decide) mt_X11_placed v_tyC rfl rfl rfl (Nat.le_of_ble_eq_true rfl) (Nat.le_of_ble_eq_true rfl) (Nat.le_of_ble_eq_true rfl) ?_
        show w_T L xs _ m_X11_placed 0 (lv_args 0 [.ref 1, .int (xs ((Int32.ofInt (i : Int)) + (Int32.ofInt 1)).toInt.toNat), .int (xs ((Int32.ofInt (i : Int)) + (Int32.ofInt 2)).toInt.toNat)]) [] S R _
        refine w_met (v_met 60 139 rw_166 (List.mem_of_getElem? (i := 0) rfl) (Nat.le_of_ble_eq_true rfl)) (Nat.le_of_ble_eq_true rfl) mt_X11_placed ⟨rfl, ⟨_, rfl, (q_rng _).1, (q_rng _).2⟩, ⟨_, rfl, (q_rng _).1, (q_rng _).2⟩, trivial⟩ hT hO (fun r S1 R1 hT1 hO1 hr hF1 => ?_)
        obtain ⟨u1, hr, -, -⟩ := hr
        subst hr
        have hK1 : S1 0 14 = S1 99 92 := by rw [(hF1 0 14 (by decide +kernel)).1, (hF1 99 92 (by decide +kernel)).1]; exact hK
        refine w_st rfl (fun _ => rfl) ?_
        refine w_st rfl (fun _ => rfl) ?_
        refine w_st rfl (fun _ => rfl) ?_
        refine w_st rfl (fun _ => rfl) ?_
        refine w_st rfl (fun _ => rfl) ?_
        refine w_st rfl (fun _ => rfl) ?_
        show w_T L xs 60 m_L_law 1153 [(3, .int (Int32.ofInt (i : Int))), (2, .ref 100), (1, .ref 1), (0, .ref 0)] [.int ((Int32.ofInt (i : Int)) + (Int32.ofInt 1)), .ref 0, .ref 100] S1 R1 Q
        refine w_sld rfl (by first | (rw [← Int32.ofInt_add, q_ofr (by omega) (by omega)]; omega) | (rw [w_nat (by omega)]; omega)) (by first | (rw [← Int32.ofInt_add, q_ofr (by omega) (by omega)]; omega) | (rw [w_nat (by omega)]; omega)) ?_
        refine w_st rfl (fun _ => rfl) ?_
        refine w_st rfl (fun _ => rfl) ?_
        refine w_st rfl (fun _ => rfl) ?_
        refine w_st rfl (fun _ => rfl) ?_
        show w_T L xs 60 m_L_law 1158 [(3, .int (Int32.ofInt (i : Int))), (2, .ref 100), (1, .ref 1), (0, .ref 0)] [.int ((Int32.ofInt (i : Int)) + (Int32.ofInt 2)), .ref 0, .int (xs ((Int32.ofInt (i : Int)) + (Int32.ofInt 1)).toInt.toNat), .ref 100] S1 R1 Q
        refine w_sld rfl (by first | (rw [← Int32.ofInt_add, q_ofr (by omega) (by omega)]; omega) | (rw [w_nat (by omega)]; omega)) (by first | (rw [← Int32.ofInt_add, q_ofr (by omega) (by omega)]; omega) | (rw [w_nat (by omega)]; omega)) ?_
        show w_T L xs 60 m_L_law 1159 [(3, .int (Int32.ofInt (i : Int))), (2, .ref 100), (1, .ref 1), (0, .ref 0)] [.int (xs ((Int32.ofInt (i : Int)) + (Int32.ofInt 2)).toInt.toNat), .int (xs ((Int32.ofInt (i : Int)) + (Int32.ofInt 1)).toInt.toNat), .ref 100] S1 R1 Q
        refine w_cv rfl (by decide) mt_X12_placed v_tyM rfl rfl rfl (Nat.le_of_ble_eq_true rfl) (Nat.le_of_ble_eq_true rfl) (Nat.le_of_ble_eq_true rfl) ?_
        show w_T L xs _ m_X12_placed 0 (lv_args 0 [.ref 100, .int (xs ((Int32.ofInt (i : Int)) + (Int32.ofInt 1)).toInt.toNat), .int (xs ((Int32.ofInt (i : Int)) + (Int32.ofInt 2)).toInt.toNat)]) [] S1 R1 _
        refine w_met (v_met 60 278 rw_246 (List.mem_of_getElem? (i := 0) rfl) (Nat.le_of_ble_eq_true rfl)) (Nat.le_of_ble_eq_true rfl) mt_X12_placed ⟨rfl, ⟨_, rfl, (q_rng _).1, (q_rng _).2⟩, ⟨_, rfl, (q_rng _).1, (q_rng _).2⟩, trivial⟩ hT1 hO1 (fun r S2 R2 hT2 hO2 hr hF2 => ?_)
        obtain ⟨u2, hr, -, -⟩ := hr
        subst hr
        have hK2 : S2 0 14 = S2 99 92 := by rw [(hF2 0 14 (by decide +kernel)).1, (hF2 99 92 (by decide +kernel)).1]; exact hK1
        refine w_st rfl (fun _ => rfl) ?_
        refine w_st rfl (fun _ => rfl) ?_
        show w_T L xs 60 m_L_law 1446 [(3, .int (Int32.ofInt (i : Int))), (2, .ref 100), (1, .ref 1), (0, .ref 0)] [] S2 R2 Q
        exact tail S2 R2 hT2 hO2 hK2
      | 26, hk =>
        obtain rfl : (1133 : Int) = o := Option.some.inj hk
        refine ⟨1166, by decide, ?_⟩
        refine w_st rfl (fun _ => rfl) ?_
        refine w_st rfl (fun _ => rfl) ?_
        refine w_st rfl (fun _ => rfl) ?_
        refine w_st rfl (fun _ => rfl) ?_
        refine w_st rfl (fun _ => rfl) ?_
        show w_T L xs 60 m_L_law 1171 [(3, .int (Int32.ofInt (i : Int))), (2, .ref 100), (1, .ref 1), (0, .ref 0)] [.int ((Int32.ofInt (i : Int)) + (Int32.ofInt 1)), .ref 0, .ref 1] S R Q
        refine w_sld rfl (by first | (rw [← Int32.ofInt_add, q_ofr (by omega) (by omega)]; omega) | (rw [w_nat (by omega)]; omega)) (by first | (rw [← Int32.ofInt_add, q_ofr (by omega) (by omega)]; omega) | (rw [w_nat (by omega)]; omega)) ?_
        show w_T L xs 60 m_L_law 1172 [(3, .int (Int32.ofInt (i : Int))), (2, .ref 100), (1, .ref 1), (0, .ref 0)] [.int (xs ((Int32.ofInt (i : Int)) + (Int32.ofInt 1)).toInt.toNat), .ref 1] S R Q
        refine w_cv rfl (by decide) mt_X11_fair v_tyC rfl rfl rfl (Nat.le_of_ble_eq_true rfl) (Nat.le_of_ble_eq_true rfl) (Nat.le_of_ble_eq_true rfl) ?_
        show w_T L xs _ m_X11_fair 0 (lv_args 0 [.ref 1, .int (xs ((Int32.ofInt (i : Int)) + (Int32.ofInt 1)).toInt.toNat)]) [] S R _
        refine w_met (v_met 60 140 rw_167 (List.mem_of_getElem? (i := 0) rfl) (Nat.le_of_ble_eq_true rfl)) (Nat.le_of_ble_eq_true rfl) mt_X11_fair ⟨rfl, ⟨_, rfl, (q_rng _).1, (q_rng _).2⟩, trivial⟩ hT hO (fun r S1 R1 hT1 hO1 hr hF1 => ?_)
        obtain ⟨u1, hr, -, -⟩ := hr
        subst hr
        have hK1 : S1 0 14 = S1 99 92 := by rw [(hF1 0 14 (by decide +kernel)).1, (hF1 99 92 (by decide +kernel)).1]; exact hK
        refine w_st rfl (fun _ => rfl) ?_
        refine w_st rfl (fun _ => rfl) ?_
        refine w_st rfl (fun _ => rfl) ?_
        refine w_st rfl (fun _ => rfl) ?_
        refine w_st rfl (fun _ => rfl) ?_
        refine w_st rfl (fun _ => rfl) ?_
        show w_T L xs 60 m_L_law 1181 [(3, .int (Int32.ofInt (i : Int))), (2, .ref 100), (1, .ref 1), (0, .ref 0)] [.int ((Int32.ofInt (i : Int)) + (Int32.ofInt 1)), .ref 0, .ref 100] S1 R1 Q
        refine w_sld rfl (by first | (rw [← Int32.ofInt_add, q_ofr (by omega) (by omega)]; omega) | (rw [w_nat (by omega)]; omega)) (by first | (rw [← Int32.ofInt_add, q_ofr (by omega) (by omega)]; omega) | (rw [w_nat (by omega)]; omega)) ?_
        show w_T L xs 60 m_L_law 1182 [(3, .int (Int32.ofInt (i : Int))), (2, .ref 100), (1, .ref 1), (0, .ref 0)] [.int (xs ((Int32.ofInt (i : Int)) + (Int32.ofInt 1)).toInt.toNat), .ref 100] S1 R1 Q
        refine w_cv rfl (by decide) mt_X12_fair v_tyM rfl rfl rfl (Nat.le_of_ble_eq_true rfl) (Nat.le_of_ble_eq_true rfl) (Nat.le_of_ble_eq_true rfl) ?_
        show w_T L xs _ m_X12_fair 0 (lv_args 0 [.ref 100, .int (xs ((Int32.ofInt (i : Int)) + (Int32.ofInt 1)).toInt.toNat)]) [] S1 R1 _
        refine w_met (v_met 60 279 rw_247 (List.mem_of_getElem? (i := 0) rfl) (Nat.le_of_ble_eq_true rfl)) (Nat.le_of_ble_eq_true rfl) mt_X12_fair ⟨rfl, ⟨_, rfl, (q_rng _).1, (q_rng _).2⟩, trivial⟩ hT1 hO1 (fun r S2 R2 hT2 hO2 hr hF2 => ?_)
        obtain ⟨u2, hr, -, -⟩ := hr
        subst hr
        have hK2 : S2 0 14 = S2 99 92 := by rw [(hF2 0 14 (by decide +kernel)).1, (hF2 99 92 (by decide +kernel)).1]; exact hK1
        refine w_st rfl (fun _ => rfl) ?_
        refine w_st rfl (fun _ => rfl) ?_
        show w_T L xs 60 m_L_law 1446 [(3, .int (Int32.ofInt (i : Int))), (2, .ref 100), (1, .ref 1), (0, .ref 0)] [] S2 R2 Q
        exact tail S2 R2 hT2 hO2 hK2
      | 27, hk =>
        obtain rfl : (1156 : Int) = o := Option.some.inj hk
        refine ⟨1189, by decide, ?_⟩
        refine w_st rfl (fun _ => rfl) ?_
        refine w_st rfl (fun _ => rfl) ?_
        refine w_st rfl (fun _ => rfl) ?_
        refine w_st rfl (fun _ => rfl) ?_
        refine w_st rfl (fun _ => rfl) ?_
        show w_T L xs 60 m_L_law 1194 [(3, .int (Int32.ofInt (i : Int))), (2, .ref 100), (1, .ref 1), (0, .ref 0)] [.int ((Int32.ofInt (i : Int)) + (Int32.ofInt 1)), .ref 0, .ref 1] S R Q
        refine w_sld rfl (by first | (rw [← Int32.ofInt_add, q_ofr (by omega) (by omega)]; omega) | (rw [w_nat (by omega)]; omega)) (by first | (rw [← Int32.ofInt_add, q_ofr (by omega) (by omega)]; omega) | (rw [w_nat (by omega)]; omega)) ?_
        refine w_st rfl (fun _ => rfl) ?_
        refine w_st rfl (fun _ => rfl) ?_
        refine w_st rfl (fun _ => rfl) ?_
        refine w_st rfl (fun _ => rfl) ?_
        show w_T L xs 60 m_L_law 1199 [(3, .int (Int32.ofInt (i : Int))), (2, .ref 100), (1, .ref 1), (0, .ref 0)] [.int ((Int32.ofInt (i : Int)) + (Int32.ofInt 2)), .ref 0, .int (xs ((Int32.ofInt (i : Int)) + (Int32.ofInt 1)).toInt.toNat), .ref 1] S R Q
        refine w_sld rfl (by first | (rw [← Int32.ofInt_add, q_ofr (by omega) (by omega)]; omega) | (rw [w_nat (by omega)]; omega)) (by first | (rw [← Int32.ofInt_add, q_ofr (by omega) (by omega)]; omega) | (rw [w_nat (by omega)]; omega)) ?_
        refine w_st rfl (fun _ => rfl) ?_
        refine w_st rfl (fun _ => rfl) ?_
        refine w_st rfl (fun _ => rfl) ?_
        refine w_st rfl (fun _ => rfl) ?_
        show w_T L xs 60 m_L_law 1204 [(3, .int (Int32.ofInt (i : Int))), (2, .ref 100), (1, .ref 1), (0, .ref 0)] [.int ((Int32.ofInt (i : Int)) + (Int32.ofInt 3)), .ref 0, .int (xs ((Int32.ofInt (i : Int)) + (Int32.ofInt 2)).toInt.toNat), .int (xs ((Int32.ofInt (i : Int)) + (Int32.ofInt 1)).toInt.toNat), .ref 1] S R Q
        refine w_sld rfl (by first | (rw [← Int32.ofInt_add, q_ofr (by omega) (by omega)]; omega) | (rw [w_nat (by omega)]; omega)) (by first | (rw [← Int32.ofInt_add, q_ofr (by omega) (by omega)]; omega) | (rw [w_nat (by omega)]; omega)) ?_
        refine w_st rfl (fun _ => rfl) ?_
        refine w_st rfl (fun _ => rfl) ?_
        refine w_st rfl (fun _ => rfl) ?_
        refine w_st rfl (fun _ => rfl) ?_
        show w_T L xs 60 m_L_law 1209 [(3, .int (Int32.ofInt (i : Int))), (2, .ref 100), (1, .ref 1), (0, .ref 0)] [.int ((Int32.ofInt (i : Int)) + (Int32.ofInt 4)), .ref 0, .int (xs ((Int32.ofInt (i : Int)) + (Int32.ofInt 3)).toInt.toNat), .int (xs ((Int32.ofInt (i : Int)) + (Int32.ofInt 2)).toInt.toNat), .int (xs ((Int32.ofInt (i : Int)) + (Int32.ofInt 1)).toInt.toNat), .ref 1] S R Q
        refine w_sld rfl (by first | (rw [← Int32.ofInt_add, q_ofr (by omega) (by omega)]; omega) | (rw [w_nat (by omega)]; omega)) (by first | (rw [← Int32.ofInt_add, q_ofr (by omega) (by omega)]; omega) | (rw [w_nat (by omega)]; omega)) ?_
        show w_T L xs 60 m_L_law 1210 [(3, .int (Int32.ofInt (i : Int))), (2, .ref 100), (1, .ref 1), (0, .ref 0)] [.int (xs ((Int32.ofInt (i : Int)) + (Int32.ofInt 4)).toInt.toNat), .int (xs ((Int32.ofInt (i : Int)) + (Int32.ofInt 3)).toInt.toNat), .int (xs ((Int32.ofInt (i : Int)) + (Int32.ofInt 2)).toInt.toNat), .int (xs ((Int32.ofInt (i : Int)) + (Int32.ofInt 1)).toInt.toNat), .ref 1] S R Q
        refine w_cv rfl (by decide) mt_X11_escaped v_tyC rfl rfl rfl (Nat.le_of_ble_eq_true rfl) (Nat.le_of_ble_eq_true rfl) (Nat.le_of_ble_eq_true rfl) ?_
        show w_T L xs _ m_X11_escaped 0 (lv_args 0 [.ref 1, .int (xs ((Int32.ofInt (i : Int)) + (Int32.ofInt 1)).toInt.toNat), .int (xs ((Int32.ofInt (i : Int)) + (Int32.ofInt 2)).toInt.toNat), .int (xs ((Int32.ofInt (i : Int)) + (Int32.ofInt 3)).toInt.toNat), .int (xs ((Int32.ofInt (i : Int)) + (Int32.ofInt 4)).toInt.toNat)]) [] S R _
        refine w_met (v_met 60 141 rw_168 (List.mem_of_getElem? (i := 0) rfl) (Nat.le_of_ble_eq_true rfl)) (Nat.le_of_ble_eq_true rfl) mt_X11_escaped ⟨rfl, ⟨_, rfl, (q_rng _).1, (q_rng _).2⟩, ⟨_, rfl, (q_rng _).1, (q_rng _).2⟩, ⟨_, rfl, (q_rng _).1, (q_rng _).2⟩, ⟨_, rfl, (q_rng _).1, (q_rng _).2⟩, trivial⟩ hT hO (fun r S1 R1 hT1 hO1 hr hF1 => ?_)
        obtain ⟨u1, hr, -, -⟩ := hr
        subst hr
        have hK1 : S1 0 14 = S1 99 92 := by rw [(hF1 0 14 (by decide +kernel)).1, (hF1 99 92 (by decide +kernel)).1]; exact hK
        refine w_st rfl (fun _ => rfl) ?_
        refine w_st rfl (fun _ => rfl) ?_
        refine w_st rfl (fun _ => rfl) ?_
        refine w_st rfl (fun _ => rfl) ?_
        refine w_st rfl (fun _ => rfl) ?_
        refine w_st rfl (fun _ => rfl) ?_
        show w_T L xs 60 m_L_law 1219 [(3, .int (Int32.ofInt (i : Int))), (2, .ref 100), (1, .ref 1), (0, .ref 0)] [.int ((Int32.ofInt (i : Int)) + (Int32.ofInt 1)), .ref 0, .ref 100] S1 R1 Q
        refine w_sld rfl (by first | (rw [← Int32.ofInt_add, q_ofr (by omega) (by omega)]; omega) | (rw [w_nat (by omega)]; omega)) (by first | (rw [← Int32.ofInt_add, q_ofr (by omega) (by omega)]; omega) | (rw [w_nat (by omega)]; omega)) ?_
        refine w_st rfl (fun _ => rfl) ?_
        refine w_st rfl (fun _ => rfl) ?_
        refine w_st rfl (fun _ => rfl) ?_
        refine w_st rfl (fun _ => rfl) ?_
        show w_T L xs 60 m_L_law 1224 [(3, .int (Int32.ofInt (i : Int))), (2, .ref 100), (1, .ref 1), (0, .ref 0)] [.int ((Int32.ofInt (i : Int)) + (Int32.ofInt 2)), .ref 0, .int (xs ((Int32.ofInt (i : Int)) + (Int32.ofInt 1)).toInt.toNat), .ref 100] S1 R1 Q
        refine w_sld rfl (by first | (rw [← Int32.ofInt_add, q_ofr (by omega) (by omega)]; omega) | (rw [w_nat (by omega)]; omega)) (by first | (rw [← Int32.ofInt_add, q_ofr (by omega) (by omega)]; omega) | (rw [w_nat (by omega)]; omega)) ?_
        refine w_st rfl (fun _ => rfl) ?_
        refine w_st rfl (fun _ => rfl) ?_
        refine w_st rfl (fun _ => rfl) ?_
        refine w_st rfl (fun _ => rfl) ?_
        show w_T L xs 60 m_L_law 1229 [(3, .int (Int32.ofInt (i : Int))), (2, .ref 100), (1, .ref 1), (0, .ref 0)] [.int ((Int32.ofInt (i : Int)) + (Int32.ofInt 3)), .ref 0, .int (xs ((Int32.ofInt (i : Int)) + (Int32.ofInt 2)).toInt.toNat), .int (xs ((Int32.ofInt (i : Int)) + (Int32.ofInt 1)).toInt.toNat), .ref 100] S1 R1 Q
        refine w_sld rfl (by first | (rw [← Int32.ofInt_add, q_ofr (by omega) (by omega)]; omega) | (rw [w_nat (by omega)]; omega)) (by first | (rw [← Int32.ofInt_add, q_ofr (by omega) (by omega)]; omega) | (rw [w_nat (by omega)]; omega)) ?_
        refine w_st rfl (fun _ => rfl) ?_
        refine w_st rfl (fun _ => rfl) ?_
        refine w_st rfl (fun _ => rfl) ?_
        refine w_st rfl (fun _ => rfl) ?_
        show w_T L xs 60 m_L_law 1234 [(3, .int (Int32.ofInt (i : Int))), (2, .ref 100), (1, .ref 1), (0, .ref 0)] [.int ((Int32.ofInt (i : Int)) + (Int32.ofInt 4)), .ref 0, .int (xs ((Int32.ofInt (i : Int)) + (Int32.ofInt 3)).toInt.toNat), .int (xs ((Int32.ofInt (i : Int)) + (Int32.ofInt 2)).toInt.toNat), .int (xs ((Int32.ofInt (i : Int)) + (Int32.ofInt 1)).toInt.toNat), .ref 100] S1 R1 Q
        refine w_sld rfl (by first | (rw [← Int32.ofInt_add, q_ofr (by omega) (by omega)]; omega) | (rw [w_nat (by omega)]; omega)) (by first | (rw [← Int32.ofInt_add, q_ofr (by omega) (by omega)]; omega) | (rw [w_nat (by omega)]; omega)) ?_
        show w_T L xs 60 m_L_law 1235 [(3, .int (Int32.ofInt (i : Int))), (2, .ref 100), (1, .ref 1), (0, .ref 0)] [.int (xs ((Int32.ofInt (i : Int)) + (Int32.ofInt 4)).toInt.toNat), .int (xs ((Int32.ofInt (i : Int)) + (Int32.ofInt 3)).toInt.toNat), .int (xs ((Int32.ofInt (i : Int)) + (Int32.ofInt 2)).toInt.toNat), .int (xs ((Int32.ofInt (i : Int)) + (Int32.ofInt 1)).toInt.toNat), .ref 100] S1 R1 Q
        refine w_cv rfl (by decide) mt_X12_escaped v_tyM rfl rfl rfl (Nat.le_of_ble_eq_true rfl) (Nat.le_of_ble_eq_true rfl) (Nat.le_of_ble_eq_true rfl) ?_
        show w_T L xs _ m_X12_escaped 0 (lv_args 0 [.ref 100, .int (xs ((Int32.ofInt (i : Int)) + (Int32.ofInt 1)).toInt.toNat), .int (xs ((Int32.ofInt (i : Int)) + (Int32.ofInt 2)).toInt.toNat), .int (xs ((Int32.ofInt (i : Int)) + (Int32.ofInt 3)).toInt.toNat), .int (xs ((Int32.ofInt (i : Int)) + (Int32.ofInt 4)).toInt.toNat)]) [] S1 R1 _
        refine w_met (v_met 60 285 rw_260 (List.mem_of_getElem? (i := 0) rfl) (Nat.le_of_ble_eq_true rfl)) (Nat.le_of_ble_eq_true rfl) mt_X12_escaped ⟨rfl, ⟨_, rfl, (q_rng _).1, (q_rng _).2⟩, ⟨_, rfl, (q_rng _).1, (q_rng _).2⟩, ⟨_, rfl, (q_rng _).1, (q_rng _).2⟩, ⟨_, rfl, (q_rng _).1, (q_rng _).2⟩, trivial⟩ hT1 hO1 (fun r S2 R2 hT2 hO2 hr hF2 => ?_)
        obtain ⟨u2, hr, -, -⟩ := hr
        subst hr
        have hK2 : S2 0 14 = S2 99 92 := by rw [(hF2 0 14 (by decide +kernel)).1, (hF2 99 92 (by decide +kernel)).1]; exact hK1
        refine w_st rfl (fun _ => rfl) ?_
        refine w_st rfl (fun _ => rfl) ?_
        show w_T L xs 60 m_L_law 1446 [(3, .int (Int32.ofInt (i : Int))), (2, .ref 100), (1, .ref 1), (0, .ref 0)] [] S2 R2 Q
        exact tail S2 R2 hT2 hO2 hK2
      | 28, hk =>
        obtain rfl : (1209 : Int) = o := Option.some.inj hk
        refine ⟨1242, by decide, ?_⟩
        refine w_st rfl (fun _ => rfl) ?_
        refine w_st rfl (fun _ => rfl) ?_
        refine w_st rfl (fun _ => rfl) ?_
        refine w_st rfl (fun _ => rfl) ?_
        refine w_st rfl (fun _ => rfl) ?_
        show w_T L xs 60 m_L_law 1247 [(3, .int (Int32.ofInt (i : Int))), (2, .ref 100), (1, .ref 1), (0, .ref 0)] [.int ((Int32.ofInt (i : Int)) + (Int32.ofInt 1)), .ref 0, .ref 1] S R Q
        refine w_sld rfl (by first | (rw [← Int32.ofInt_add, q_ofr (by omega) (by omega)]; omega) | (rw [w_nat (by omega)]; omega)) (by first | (rw [← Int32.ofInt_add, q_ofr (by omega) (by omega)]; omega) | (rw [w_nat (by omega)]; omega)) ?_
        refine w_st rfl (fun _ => rfl) ?_
        refine w_st rfl (fun _ => rfl) ?_
        refine w_st rfl (fun _ => rfl) ?_
        refine w_st rfl (fun _ => rfl) ?_
        show w_T L xs 60 m_L_law 1252 [(3, .int (Int32.ofInt (i : Int))), (2, .ref 100), (1, .ref 1), (0, .ref 0)] [.int ((Int32.ofInt (i : Int)) + (Int32.ofInt 2)), .ref 0, .int (xs ((Int32.ofInt (i : Int)) + (Int32.ofInt 1)).toInt.toNat), .ref 1] S R Q
        refine w_sld rfl (by first | (rw [← Int32.ofInt_add, q_ofr (by omega) (by omega)]; omega) | (rw [w_nat (by omega)]; omega)) (by first | (rw [← Int32.ofInt_add, q_ofr (by omega) (by omega)]; omega) | (rw [w_nat (by omega)]; omega)) ?_
        refine w_st rfl (fun _ => rfl) ?_
        refine w_st rfl (fun _ => rfl) ?_
        refine w_st rfl (fun _ => rfl) ?_
        refine w_st rfl (fun _ => rfl) ?_
        show w_T L xs 60 m_L_law 1257 [(3, .int (Int32.ofInt (i : Int))), (2, .ref 100), (1, .ref 1), (0, .ref 0)] [.int ((Int32.ofInt (i : Int)) + (Int32.ofInt 3)), .ref 0, .int (xs ((Int32.ofInt (i : Int)) + (Int32.ofInt 2)).toInt.toNat), .int (xs ((Int32.ofInt (i : Int)) + (Int32.ofInt 1)).toInt.toNat), .ref 1] S R Q
        refine w_sld rfl (by first | (rw [← Int32.ofInt_add, q_ofr (by omega) (by omega)]; omega) | (rw [w_nat (by omega)]; omega)) (by first | (rw [← Int32.ofInt_add, q_ofr (by omega) (by omega)]; omega) | (rw [w_nat (by omega)]; omega)) ?_
        show w_T L xs 60 m_L_law 1258 [(3, .int (Int32.ofInt (i : Int))), (2, .ref 100), (1, .ref 1), (0, .ref 0)] [.int (xs ((Int32.ofInt (i : Int)) + (Int32.ofInt 3)).toInt.toNat), .int (xs ((Int32.ofInt (i : Int)) + (Int32.ofInt 2)).toInt.toNat), .int (xs ((Int32.ofInt (i : Int)) + (Int32.ofInt 1)).toInt.toNat), .ref 1] S R Q
        refine w_cv rfl (by decide) mt_X11_nursed v_tyC rfl rfl rfl (Nat.le_of_ble_eq_true rfl) (Nat.le_of_ble_eq_true rfl) (Nat.le_of_ble_eq_true rfl) ?_
        show w_T L xs _ m_X11_nursed 0 (lv_args 0 [.ref 1, .int (xs ((Int32.ofInt (i : Int)) + (Int32.ofInt 1)).toInt.toNat), .int (xs ((Int32.ofInt (i : Int)) + (Int32.ofInt 2)).toInt.toNat), .int (xs ((Int32.ofInt (i : Int)) + (Int32.ofInt 3)).toInt.toNat)]) [] S R _
        refine w_met (v_met 60 142 rw_169 (List.mem_of_getElem? (i := 0) rfl) (Nat.le_of_ble_eq_true rfl)) (Nat.le_of_ble_eq_true rfl) mt_X11_nursed ⟨rfl, ⟨_, rfl, (q_rng _).1, (q_rng _).2⟩, ⟨_, rfl, (q_rng _).1, (q_rng _).2⟩, ⟨_, rfl, (q_rng _).1, (q_rng _).2⟩, trivial⟩ hT hO (fun r S1 R1 hT1 hO1 hr hF1 => ?_)
        obtain ⟨u1, hr, -, -⟩ := hr
        subst hr
        have hK1 : S1 0 14 = S1 99 92 := by rw [(hF1 0 14 (by decide +kernel)).1, (hF1 99 92 (by decide +kernel)).1]; exact hK
        refine w_st rfl (fun _ => rfl) ?_
        refine w_st rfl (fun _ => rfl) ?_
        refine w_st rfl (fun _ => rfl) ?_
        refine w_st rfl (fun _ => rfl) ?_
        refine w_st rfl (fun _ => rfl) ?_
        refine w_st rfl (fun _ => rfl) ?_
        show w_T L xs 60 m_L_law 1267 [(3, .int (Int32.ofInt (i : Int))), (2, .ref 100), (1, .ref 1), (0, .ref 0)] [.int ((Int32.ofInt (i : Int)) + (Int32.ofInt 1)), .ref 0, .ref 100] S1 R1 Q
        refine w_sld rfl (by first | (rw [← Int32.ofInt_add, q_ofr (by omega) (by omega)]; omega) | (rw [w_nat (by omega)]; omega)) (by first | (rw [← Int32.ofInt_add, q_ofr (by omega) (by omega)]; omega) | (rw [w_nat (by omega)]; omega)) ?_
        refine w_st rfl (fun _ => rfl) ?_
        refine w_st rfl (fun _ => rfl) ?_
        refine w_st rfl (fun _ => rfl) ?_
        refine w_st rfl (fun _ => rfl) ?_
        show w_T L xs 60 m_L_law 1272 [(3, .int (Int32.ofInt (i : Int))), (2, .ref 100), (1, .ref 1), (0, .ref 0)] [.int ((Int32.ofInt (i : Int)) + (Int32.ofInt 2)), .ref 0, .int (xs ((Int32.ofInt (i : Int)) + (Int32.ofInt 1)).toInt.toNat), .ref 100] S1 R1 Q
        refine w_sld rfl (by first | (rw [← Int32.ofInt_add, q_ofr (by omega) (by omega)]; omega) | (rw [w_nat (by omega)]; omega)) (by first | (rw [← Int32.ofInt_add, q_ofr (by omega) (by omega)]; omega) | (rw [w_nat (by omega)]; omega)) ?_
        refine w_st rfl (fun _ => rfl) ?_
        refine w_st rfl (fun _ => rfl) ?_
        refine w_st rfl (fun _ => rfl) ?_
        refine w_st rfl (fun _ => rfl) ?_
        show w_T L xs 60 m_L_law 1277 [(3, .int (Int32.ofInt (i : Int))), (2, .ref 100), (1, .ref 1), (0, .ref 0)] [.int ((Int32.ofInt (i : Int)) + (Int32.ofInt 3)), .ref 0, .int (xs ((Int32.ofInt (i : Int)) + (Int32.ofInt 2)).toInt.toNat), .int (xs ((Int32.ofInt (i : Int)) + (Int32.ofInt 1)).toInt.toNat), .ref 100] S1 R1 Q
        refine w_sld rfl (by first | (rw [← Int32.ofInt_add, q_ofr (by omega) (by omega)]; omega) | (rw [w_nat (by omega)]; omega)) (by first | (rw [← Int32.ofInt_add, q_ofr (by omega) (by omega)]; omega) | (rw [w_nat (by omega)]; omega)) ?_
        show w_T L xs 60 m_L_law 1278 [(3, .int (Int32.ofInt (i : Int))), (2, .ref 100), (1, .ref 1), (0, .ref 0)] [.int (xs ((Int32.ofInt (i : Int)) + (Int32.ofInt 3)).toInt.toNat), .int (xs ((Int32.ofInt (i : Int)) + (Int32.ofInt 2)).toInt.toNat), .int (xs ((Int32.ofInt (i : Int)) + (Int32.ofInt 1)).toInt.toNat), .ref 100] S1 R1 Q
        refine w_cv rfl (by decide) mt_X12_nursed v_tyM rfl rfl rfl (Nat.le_of_ble_eq_true rfl) (Nat.le_of_ble_eq_true rfl) (Nat.le_of_ble_eq_true rfl) ?_
        show w_T L xs _ m_X12_nursed 0 (lv_args 0 [.ref 100, .int (xs ((Int32.ofInt (i : Int)) + (Int32.ofInt 1)).toInt.toNat), .int (xs ((Int32.ofInt (i : Int)) + (Int32.ofInt 2)).toInt.toNat), .int (xs ((Int32.ofInt (i : Int)) + (Int32.ofInt 3)).toInt.toNat)]) [] S1 R1 _
        refine w_met (v_met 60 288 rw_262 (List.mem_of_getElem? (i := 0) rfl) (Nat.le_of_ble_eq_true rfl)) (Nat.le_of_ble_eq_true rfl) mt_X12_nursed ⟨rfl, ⟨_, rfl, (q_rng _).1, (q_rng _).2⟩, ⟨_, rfl, (q_rng _).1, (q_rng _).2⟩, ⟨_, rfl, (q_rng _).1, (q_rng _).2⟩, trivial⟩ hT1 hO1 (fun r S2 R2 hT2 hO2 hr hF2 => ?_)
        obtain ⟨u2, hr, -, -⟩ := hr
        subst hr
        have hK2 : S2 0 14 = S2 99 92 := by rw [(hF2 0 14 (by decide +kernel)).1, (hF2 99 92 (by decide +kernel)).1]; exact hK1
        refine w_st rfl (fun _ => rfl) ?_
        refine w_st rfl (fun _ => rfl) ?_
        show w_T L xs 60 m_L_law 1446 [(3, .int (Int32.ofInt (i : Int))), (2, .ref 100), (1, .ref 1), (0, .ref 0)] [] S2 R2 Q
        exact tail S2 R2 hT2 hO2 hK2
      | 29, hk =>
        obtain rfl : (1252 : Int) = o := Option.some.inj hk
        refine ⟨1285, by decide, ?_⟩
        refine w_st rfl (fun _ => rfl) ?_
        refine w_st rfl (fun _ => rfl) ?_
        refine w_st rfl (fun _ => rfl) ?_
        refine w_st rfl (fun _ => rfl) ?_
        refine w_st rfl (fun _ => rfl) ?_
        show w_T L xs 60 m_L_law 1290 [(3, .int (Int32.ofInt (i : Int))), (2, .ref 100), (1, .ref 1), (0, .ref 0)] [.int ((Int32.ofInt (i : Int)) + (Int32.ofInt 1)), .ref 0, .ref 1] S R Q
        refine w_sld rfl (by first | (rw [← Int32.ofInt_add, q_ofr (by omega) (by omega)]; omega) | (rw [w_nat (by omega)]; omega)) (by first | (rw [← Int32.ofInt_add, q_ofr (by omega) (by omega)]; omega) | (rw [w_nat (by omega)]; omega)) ?_
        refine w_st rfl (fun _ => rfl) ?_
        refine w_st rfl (fun _ => rfl) ?_
        refine w_st rfl (fun _ => rfl) ?_
        refine w_st rfl (fun _ => rfl) ?_
        show w_T L xs 60 m_L_law 1295 [(3, .int (Int32.ofInt (i : Int))), (2, .ref 100), (1, .ref 1), (0, .ref 0)] [.int ((Int32.ofInt (i : Int)) + (Int32.ofInt 2)), .ref 0, .int (xs ((Int32.ofInt (i : Int)) + (Int32.ofInt 1)).toInt.toNat), .ref 1] S R Q
        refine w_sld rfl (by first | (rw [← Int32.ofInt_add, q_ofr (by omega) (by omega)]; omega) | (rw [w_nat (by omega)]; omega)) (by first | (rw [← Int32.ofInt_add, q_ofr (by omega) (by omega)]; omega) | (rw [w_nat (by omega)]; omega)) ?_
        show w_T L xs 60 m_L_law 1296 [(3, .int (Int32.ofInt (i : Int))), (2, .ref 100), (1, .ref 1), (0, .ref 0)] [.int (xs ((Int32.ofInt (i : Int)) + (Int32.ofInt 2)).toInt.toNat), .int (xs ((Int32.ofInt (i : Int)) + (Int32.ofInt 1)).toInt.toNat), .ref 1] S R Q
        refine w_cv rfl (by decide) mt_X11_round v_tyC rfl rfl rfl (Nat.le_of_ble_eq_true rfl) (Nat.le_of_ble_eq_true rfl) (Nat.le_of_ble_eq_true rfl) ?_
        show w_T L xs _ m_X11_round 0 (lv_args 0 [.ref 1, .int (xs ((Int32.ofInt (i : Int)) + (Int32.ofInt 1)).toInt.toNat), .int (xs ((Int32.ofInt (i : Int)) + (Int32.ofInt 2)).toInt.toNat)]) [] S R _
        refine w_met (v_met 60 143 rw_170 (List.mem_of_getElem? (i := 0) rfl) (Nat.le_of_ble_eq_true rfl)) (Nat.le_of_ble_eq_true rfl) mt_X11_round ⟨rfl, ⟨_, rfl, (q_rng _).1, (q_rng _).2⟩, ⟨_, rfl, (q_rng _).1, (q_rng _).2⟩, trivial⟩ hT hO (fun r S1 R1 hT1 hO1 hr hF1 => ?_)
        obtain ⟨u1, hr, -, -⟩ := hr
        subst hr
        have hK1 : S1 0 14 = S1 99 92 := by rw [(hF1 0 14 (by decide +kernel)).1, (hF1 99 92 (by decide +kernel)).1]; exact hK
        refine w_st rfl (fun _ => rfl) ?_
        refine w_st rfl (fun _ => rfl) ?_
        refine w_st rfl (fun _ => rfl) ?_
        refine w_st rfl (fun _ => rfl) ?_
        refine w_st rfl (fun _ => rfl) ?_
        refine w_st rfl (fun _ => rfl) ?_
        show w_T L xs 60 m_L_law 1305 [(3, .int (Int32.ofInt (i : Int))), (2, .ref 100), (1, .ref 1), (0, .ref 0)] [.int ((Int32.ofInt (i : Int)) + (Int32.ofInt 1)), .ref 0, .ref 100] S1 R1 Q
        refine w_sld rfl (by first | (rw [← Int32.ofInt_add, q_ofr (by omega) (by omega)]; omega) | (rw [w_nat (by omega)]; omega)) (by first | (rw [← Int32.ofInt_add, q_ofr (by omega) (by omega)]; omega) | (rw [w_nat (by omega)]; omega)) ?_
        refine w_st rfl (fun _ => rfl) ?_
        refine w_st rfl (fun _ => rfl) ?_
        refine w_st rfl (fun _ => rfl) ?_
        refine w_st rfl (fun _ => rfl) ?_
        show w_T L xs 60 m_L_law 1310 [(3, .int (Int32.ofInt (i : Int))), (2, .ref 100), (1, .ref 1), (0, .ref 0)] [.int ((Int32.ofInt (i : Int)) + (Int32.ofInt 2)), .ref 0, .int (xs ((Int32.ofInt (i : Int)) + (Int32.ofInt 1)).toInt.toNat), .ref 100] S1 R1 Q
        refine w_sld rfl (by first | (rw [← Int32.ofInt_add, q_ofr (by omega) (by omega)]; omega) | (rw [w_nat (by omega)]; omega)) (by first | (rw [← Int32.ofInt_add, q_ofr (by omega) (by omega)]; omega) | (rw [w_nat (by omega)]; omega)) ?_
        show w_T L xs 60 m_L_law 1311 [(3, .int (Int32.ofInt (i : Int))), (2, .ref 100), (1, .ref 1), (0, .ref 0)] [.int (xs ((Int32.ofInt (i : Int)) + (Int32.ofInt 2)).toInt.toNat), .int (xs ((Int32.ofInt (i : Int)) + (Int32.ofInt 1)).toInt.toNat), .ref 100] S1 R1 Q
        refine w_cv rfl (by decide) mt_X12_round v_tyM rfl rfl rfl (Nat.le_of_ble_eq_true rfl) (Nat.le_of_ble_eq_true rfl) (Nat.le_of_ble_eq_true rfl) ?_
        show w_T L xs _ m_X12_round 0 (lv_args 0 [.ref 100, .int (xs ((Int32.ofInt (i : Int)) + (Int32.ofInt 1)).toInt.toNat), .int (xs ((Int32.ofInt (i : Int)) + (Int32.ofInt 2)).toInt.toNat)]) [] S1 R1 _
        refine w_met (v_met 60 290 rw_263 (List.mem_of_getElem? (i := 0) rfl) (Nat.le_of_ble_eq_true rfl)) (Nat.le_of_ble_eq_true rfl) mt_X12_round ⟨rfl, ⟨_, rfl, (q_rng _).1, (q_rng _).2⟩, ⟨_, rfl, (q_rng _).1, (q_rng _).2⟩, trivial⟩ hT1 hO1 (fun r S2 R2 hT2 hO2 hr hF2 => ?_)
        obtain ⟨u2, hr, -, -⟩ := hr
        subst hr
        have hK2 : S2 0 14 = S2 99 92 := by rw [(hF2 0 14 (by decide +kernel)).1, (hF2 99 92 (by decide +kernel)).1]; exact hK1
        refine w_st rfl (fun _ => rfl) ?_
        refine w_st rfl (fun _ => rfl) ?_
        show w_T L xs 60 m_L_law 1446 [(3, .int (Int32.ofInt (i : Int))), (2, .ref 100), (1, .ref 1), (0, .ref 0)] [] S2 R2 Q
        exact tail S2 R2 hT2 hO2 hK2
      | 30, hk =>
        obtain rfl : (1285 : Int) = o := Option.some.inj hk
        refine ⟨1318, by decide, ?_⟩
        refine w_st rfl (fun _ => rfl) ?_
        refine w_st rfl (fun _ => rfl) ?_
        refine w_st rfl (fun _ => rfl) ?_
        refine w_st rfl (fun _ => rfl) ?_
        refine w_st rfl (fun _ => rfl) ?_
        show w_T L xs 60 m_L_law 1323 [(3, .int (Int32.ofInt (i : Int))), (2, .ref 100), (1, .ref 1), (0, .ref 0)] [.int ((Int32.ofInt (i : Int)) + (Int32.ofInt 1)), .ref 0, .ref 1] S R Q
        refine w_sld rfl (by first | (rw [← Int32.ofInt_add, q_ofr (by omega) (by omega)]; omega) | (rw [w_nat (by omega)]; omega)) (by first | (rw [← Int32.ofInt_add, q_ofr (by omega) (by omega)]; omega) | (rw [w_nat (by omega)]; omega)) ?_
        refine w_st rfl (fun _ => rfl) ?_
        refine w_st rfl (fun _ => rfl) ?_
        refine w_st rfl (fun _ => rfl) ?_
        refine w_st rfl (fun _ => rfl) ?_
        show w_T L xs 60 m_L_law 1328 [(3, .int (Int32.ofInt (i : Int))), (2, .ref 100), (1, .ref 1), (0, .ref 0)] [.int ((Int32.ofInt (i : Int)) + (Int32.ofInt 2)), .ref 0, .int (xs ((Int32.ofInt (i : Int)) + (Int32.ofInt 1)).toInt.toNat), .ref 1] S R Q
        refine w_sld rfl (by first | (rw [← Int32.ofInt_add, q_ofr (by omega) (by omega)]; omega) | (rw [w_nat (by omega)]; omega)) (by first | (rw [← Int32.ofInt_add, q_ofr (by omega) (by omega)]; omega) | (rw [w_nat (by omega)]; omega)) ?_
        show w_T L xs 60 m_L_law 1329 [(3, .int (Int32.ofInt (i : Int))), (2, .ref 100), (1, .ref 1), (0, .ref 0)] [.int (xs ((Int32.ofInt (i : Int)) + (Int32.ofInt 2)).toInt.toNat), .int (xs ((Int32.ofInt (i : Int)) + (Int32.ofInt 1)).toInt.toNat), .ref 1] S R Q
        refine w_cv rfl (by decide) mt_X11_added v_tyC rfl rfl rfl (Nat.le_of_ble_eq_true rfl) (Nat.le_of_ble_eq_true rfl) (Nat.le_of_ble_eq_true rfl) ?_
        show w_T L xs _ m_X11_added 0 (lv_args 0 [.ref 1, .int (xs ((Int32.ofInt (i : Int)) + (Int32.ofInt 1)).toInt.toNat), .int (xs ((Int32.ofInt (i : Int)) + (Int32.ofInt 2)).toInt.toNat)]) [] S R _
        refine w_met (v_met 60 133 rw_160 (List.mem_of_getElem? (i := 0) rfl) (Nat.le_of_ble_eq_true rfl)) (Nat.le_of_ble_eq_true rfl) mt_X11_added ⟨rfl, ⟨_, rfl, (q_rng _).1, (q_rng _).2⟩, ⟨_, rfl, (q_rng _).1, (q_rng _).2⟩, trivial⟩ hT hO (fun r S1 R1 hT1 hO1 hr hF1 => ?_)
        obtain ⟨u1, hr, -, -⟩ := hr
        subst hr
        have hK1 : S1 0 14 = S1 99 92 := by rw [(hF1 0 14 (by decide +kernel)).1, (hF1 99 92 (by decide +kernel)).1]; exact hK
        refine w_st rfl (fun _ => rfl) ?_
        refine w_st rfl (fun _ => rfl) ?_
        refine w_st rfl (fun _ => rfl) ?_
        refine w_st rfl (fun _ => rfl) ?_
        refine w_st rfl (fun _ => rfl) ?_
        refine w_st rfl (fun _ => rfl) ?_
        show w_T L xs 60 m_L_law 1338 [(3, .int (Int32.ofInt (i : Int))), (2, .ref 100), (1, .ref 1), (0, .ref 0)] [.int ((Int32.ofInt (i : Int)) + (Int32.ofInt 1)), .ref 0, .ref 100] S1 R1 Q
        refine w_sld rfl (by first | (rw [← Int32.ofInt_add, q_ofr (by omega) (by omega)]; omega) | (rw [w_nat (by omega)]; omega)) (by first | (rw [← Int32.ofInt_add, q_ofr (by omega) (by omega)]; omega) | (rw [w_nat (by omega)]; omega)) ?_
        refine w_st rfl (fun _ => rfl) ?_
        refine w_st rfl (fun _ => rfl) ?_
        refine w_st rfl (fun _ => rfl) ?_
        refine w_st rfl (fun _ => rfl) ?_
        show w_T L xs 60 m_L_law 1343 [(3, .int (Int32.ofInt (i : Int))), (2, .ref 100), (1, .ref 1), (0, .ref 0)] [.int ((Int32.ofInt (i : Int)) + (Int32.ofInt 2)), .ref 0, .int (xs ((Int32.ofInt (i : Int)) + (Int32.ofInt 1)).toInt.toNat), .ref 100] S1 R1 Q
        refine w_sld rfl (by first | (rw [← Int32.ofInt_add, q_ofr (by omega) (by omega)]; omega) | (rw [w_nat (by omega)]; omega)) (by first | (rw [← Int32.ofInt_add, q_ofr (by omega) (by omega)]; omega) | (rw [w_nat (by omega)]; omega)) ?_
        show w_T L xs 60 m_L_law 1344 [(3, .int (Int32.ofInt (i : Int))), (2, .ref 100), (1, .ref 1), (0, .ref 0)] [.int (xs ((Int32.ofInt (i : Int)) + (Int32.ofInt 2)).toInt.toNat), .int (xs ((Int32.ofInt (i : Int)) + (Int32.ofInt 1)).toInt.toNat), .ref 100] S1 R1 Q
        refine w_cv rfl (by decide) mt_X12_added v_tyM rfl rfl rfl (Nat.le_of_ble_eq_true rfl) (Nat.le_of_ble_eq_true rfl) (Nat.le_of_ble_eq_true rfl) ?_
        show w_T L xs _ m_X12_added 0 (lv_args 0 [.ref 100, .int (xs ((Int32.ofInt (i : Int)) + (Int32.ofInt 1)).toInt.toNat), .int (xs ((Int32.ofInt (i : Int)) + (Int32.ofInt 2)).toInt.toNat)]) [] S1 R1 _
        refine w_met (v_met 60 292 rw_264 (List.mem_of_getElem? (i := 0) rfl) (Nat.le_of_ble_eq_true rfl)) (Nat.le_of_ble_eq_true rfl) mt_X12_added ⟨rfl, ⟨_, rfl, (q_rng _).1, (q_rng _).2⟩, ⟨_, rfl, (q_rng _).1, (q_rng _).2⟩, trivial⟩ hT1 hO1 (fun r S2 R2 hT2 hO2 hr hF2 => ?_)
        obtain ⟨u2, hr, -, -⟩ := hr
        subst hr
        have hK2 : S2 0 14 = S2 99 92 := by rw [(hF2 0 14 (by decide +kernel)).1, (hF2 99 92 (by decide +kernel)).1]; exact hK1
        refine w_st rfl (fun _ => rfl) ?_
        refine w_st rfl (fun _ => rfl) ?_
        show w_T L xs 60 m_L_law 1446 [(3, .int (Int32.ofInt (i : Int))), (2, .ref 100), (1, .ref 1), (0, .ref 0)] [] S2 R2 Q
        exact tail S2 R2 hT2 hO2 hK2
      | 31, hk =>
        obtain rfl : (1318 : Int) = o := Option.some.inj hk
        refine ⟨1351, by decide, ?_⟩
        refine w_st rfl (fun _ => rfl) ?_
        refine w_st rfl (fun _ => rfl) ?_
        refine w_st rfl (fun _ => rfl) ?_
        refine w_st rfl (fun _ => rfl) ?_
        refine w_st rfl (fun _ => rfl) ?_
        show w_T L xs 60 m_L_law 1356 [(3, .int (Int32.ofInt (i : Int))), (2, .ref 100), (1, .ref 1), (0, .ref 0)] [.int ((Int32.ofInt (i : Int)) + (Int32.ofInt 1)), .ref 0, .ref 1] S R Q
        refine w_sld rfl (by first | (rw [← Int32.ofInt_add, q_ofr (by omega) (by omega)]; omega) | (rw [w_nat (by omega)]; omega)) (by first | (rw [← Int32.ofInt_add, q_ofr (by omega) (by omega)]; omega) | (rw [w_nat (by omega)]; omega)) ?_
        show w_T L xs 60 m_L_law 1357 [(3, .int (Int32.ofInt (i : Int))), (2, .ref 100), (1, .ref 1), (0, .ref 0)] [.int (xs ((Int32.ofInt (i : Int)) + (Int32.ofInt 1)).toInt.toNat), .ref 1] S R Q
        refine w_cv rfl (by decide) mt_X11_seed v_tyC rfl rfl rfl (Nat.le_of_ble_eq_true rfl) (Nat.le_of_ble_eq_true rfl) (Nat.le_of_ble_eq_true rfl) ?_
        show w_T L xs _ m_X11_seed 0 (lv_args 0 [.ref 1, .int (xs ((Int32.ofInt (i : Int)) + (Int32.ofInt 1)).toInt.toNat)]) [] S R _
        refine w_met (v_met 60 121 rw_148 (List.mem_of_getElem? (i := 0) rfl) (Nat.le_of_ble_eq_true rfl)) (Nat.le_of_ble_eq_true rfl) mt_X11_seed ⟨rfl, ⟨_, rfl, (q_rng _).1, (q_rng _).2⟩, trivial⟩ hT hO (fun r S1 R1 hT1 hO1 hr hF1 => ?_)
        obtain ⟨u1, hr, -, -⟩ := hr
        subst hr
        have hK1 : S1 0 14 = S1 99 92 := by rw [(hF1 0 14 (by decide +kernel)).1, (hF1 99 92 (by decide +kernel)).1]; exact hK
        refine w_st rfl (fun _ => rfl) ?_
        refine w_st rfl (fun _ => rfl) ?_
        refine w_st rfl (fun _ => rfl) ?_
        refine w_st rfl (fun _ => rfl) ?_
        refine w_st rfl (fun _ => rfl) ?_
        refine w_st rfl (fun _ => rfl) ?_
        show w_T L xs 60 m_L_law 1366 [(3, .int (Int32.ofInt (i : Int))), (2, .ref 100), (1, .ref 1), (0, .ref 0)] [.int ((Int32.ofInt (i : Int)) + (Int32.ofInt 1)), .ref 0, .ref 100] S1 R1 Q
        refine w_sld rfl (by first | (rw [← Int32.ofInt_add, q_ofr (by omega) (by omega)]; omega) | (rw [w_nat (by omega)]; omega)) (by first | (rw [← Int32.ofInt_add, q_ofr (by omega) (by omega)]; omega) | (rw [w_nat (by omega)]; omega)) ?_
        show w_T L xs 60 m_L_law 1367 [(3, .int (Int32.ofInt (i : Int))), (2, .ref 100), (1, .ref 1), (0, .ref 0)] [.int (xs ((Int32.ofInt (i : Int)) + (Int32.ofInt 1)).toInt.toNat), .ref 100] S1 R1 Q
        refine w_cv rfl (by decide) mt_X12_seed v_tyM rfl rfl rfl (Nat.le_of_ble_eq_true rfl) (Nat.le_of_ble_eq_true rfl) (Nat.le_of_ble_eq_true rfl) ?_
        show w_T L xs _ m_X12_seed 0 (lv_args 0 [.ref 100, .int (xs ((Int32.ofInt (i : Int)) + (Int32.ofInt 1)).toInt.toNat)]) [] S1 R1 _
        refine w_met (v_met 60 293 rw_265 (List.mem_of_getElem? (i := 0) rfl) (Nat.le_of_ble_eq_true rfl)) (Nat.le_of_ble_eq_true rfl) mt_X12_seed ⟨rfl, ⟨_, rfl, (q_rng _).1, (q_rng _).2⟩, trivial⟩ hT1 hO1 (fun r S2 R2 hT2 hO2 hr hF2 => ?_)
        obtain ⟨u2, hr, -, -⟩ := hr
        subst hr
        have hK2 : S2 0 14 = S2 99 92 := by rw [(hF2 0 14 (by decide +kernel)).1, (hF2 99 92 (by decide +kernel)).1]; exact hK1
        refine w_st rfl (fun _ => rfl) ?_
        refine w_st rfl (fun _ => rfl) ?_
        show w_T L xs 60 m_L_law 1446 [(3, .int (Int32.ofInt (i : Int))), (2, .ref 100), (1, .ref 1), (0, .ref 0)] [] S2 R2 Q
        exact tail S2 R2 hT2 hO2 hK2
      | 32, hk =>
        obtain rfl : (1341 : Int) = o := Option.some.inj hk
        refine ⟨1374, by decide, ?_⟩
        refine w_st rfl (fun _ => rfl) ?_
        show w_T L xs 60 m_L_law 1375 [(3, .int (Int32.ofInt (i : Int))), (2, .ref 100), (1, .ref 1), (0, .ref 0)] [.ref 1] S R Q
        refine w_cv rfl (by decide) mt_X11_keep v_tyC rfl rfl rfl (Nat.le_of_ble_eq_true rfl) (Nat.le_of_ble_eq_true rfl) (Nat.le_of_ble_eq_true rfl) ?_
        show w_T L xs _ m_X11_keep 0 (lv_args 0 [.ref 1]) [] S R _
        refine a_X11_keep hT hO (fun S1 R1 u1 hT1 hO1 q1 => ?_)
        refine w_st rfl (fun _ => rfl) ?_
        refine w_st rfl (fun _ => rfl) ?_
        show w_T L xs 60 m_L_law 1380 [(3, .int (Int32.ofInt (i : Int))), (2, .ref 100), (1, .ref 1), (0, .ref 0)] [.ref 100] S1 R1 Q
        refine w_cv rfl (by decide) mt_X12_keep v_tyM rfl rfl rfl (Nat.le_of_ble_eq_true rfl) (Nat.le_of_ble_eq_true rfl) (Nat.le_of_ble_eq_true rfl) ?_
        show w_T L xs _ m_X12_keep 0 (lv_args 0 [.ref 100]) [] S1 R1 _
        refine a_X12_keep hT1 hO1 (fun S2 R2 u2 hT2 hO2 q2 p2 => ?_)
        have hK2 : S2 0 14 = S2 99 92 := by rw [q2, p2, q1]
        refine w_st rfl (fun _ => rfl) ?_
        refine w_st rfl (fun _ => rfl) ?_
        show w_T L xs 60 m_L_law 1446 [(3, .int (Int32.ofInt (i : Int))), (2, .ref 100), (1, .ref 1), (0, .ref 0)] [] S2 R2 Q
        exact tail S2 R2 hT2 hO2 hK2
      | 33, hk =>
        obtain rfl : (1354 : Int) = o := Option.some.inj hk
        refine ⟨1387, by decide, ?_⟩
        refine w_st rfl (fun _ => rfl) ?_
        show w_T L xs 60 m_L_law 1388 [(3, .int (Int32.ofInt (i : Int))), (2, .ref 100), (1, .ref 1), (0, .ref 0)] [.ref 1] S R Q
        refine w_cv rfl (by decide) mt_X11_undo v_tyC rfl rfl rfl (Nat.le_of_ble_eq_true rfl) (Nat.le_of_ble_eq_true rfl) (Nat.le_of_ble_eq_true rfl) ?_
        show w_T L xs _ m_X11_undo 0 (lv_args 0 [.ref 1]) [] S R _
        refine a_X11_undo hT hO (fun S1 R1 hT1 hO1 q1 p1 => ?_)
        have hK1 : S1 0 14 = S1 99 92 := by rw [q1, p1]; exact hK
        refine w_st rfl (fun _ => rfl) ?_
        show w_T L xs 60 m_L_law 1392 [(3, .int (Int32.ofInt (i : Int))), (2, .ref 100), (1, .ref 1), (0, .ref 0)] [.ref 100, .int (if S 0 14 = 0 then (0 : Int32) else 1)] S1 R1 Q
        refine w_cv rfl (by decide) mt_X12_undo v_tyM rfl rfl rfl (Nat.le_of_ble_eq_true rfl) (Nat.le_of_ble_eq_true rfl) (Nat.le_of_ble_eq_true rfl) ?_
        show w_T L xs _ m_X12_undo 0 (lv_args 0 [.ref 100]) [] S1 R1 _
        refine a_X12_undo hT1 hO1 (fun S2 R2 hT2 hO2 q2 p2 => ?_)
        have hK2 : S2 0 14 = S2 99 92 := by rw [q2, p2]; exact hK1
        rw [← hK1, q1]
        show w_T L xs 60 m_L_law 1395 [(3, .int (Int32.ofInt (i : Int))), (2, .ref 100), (1, .ref 1), (0, .ref 0)] [.int (if S 0 14 = 0 then (0 : Int32) else 1), .int (if S 0 14 = 0 then (0 : Int32) else 1)] S2 R2 Q
        refine w_br (P := (if S 0 14 = 0 then (0 : Int32) else 1) = (if S 0 14 = 0 then (0 : Int32) else 1)) rfl (fun _ => rfl) (fun h1395 => ?_) (fun h1395 => ?_)
        · exact tail S2 R2 hT2 hO2 hK2
        · exact absurd rfl h1395
      | 34, hk =>
        obtain rfl : (1367 : Int) = o := Option.some.inj hk
        refine ⟨1400, by decide, ?_⟩
        refine w_st rfl (fun _ => rfl) ?_
        refine w_st rfl (fun _ => rfl) ?_
        refine w_st rfl (fun _ => rfl) ?_
        refine w_st rfl (fun _ => rfl) ?_
        refine w_st rfl (fun _ => rfl) ?_
        show w_T L xs 60 m_L_law 1405 [(3, .int (Int32.ofInt (i : Int))), (2, .ref 100), (1, .ref 1), (0, .ref 0)] [.int ((Int32.ofInt (i : Int)) + (Int32.ofInt 1)), .ref 0, .ref 1] S R Q
        refine w_sld rfl (by first | (rw [← Int32.ofInt_add, q_ofr (by omega) (by omega)]; omega) | (rw [w_nat (by omega)]; omega)) (by first | (rw [← Int32.ofInt_add, q_ofr (by omega) (by omega)]; omega) | (rw [w_nat (by omega)]; omega)) ?_
        show w_T L xs 60 m_L_law 1406 [(3, .int (Int32.ofInt (i : Int))), (2, .ref 100), (1, .ref 1), (0, .ref 0)] [.int (xs ((Int32.ofInt (i : Int)) + (Int32.ofInt 1)).toInt.toNat), .ref 1] S R Q
        refine w_cv rfl (by decide) mt_X11_check v_tyC rfl rfl rfl (Nat.le_of_ble_eq_true rfl) (Nat.le_of_ble_eq_true rfl) (Nat.le_of_ble_eq_true rfl) ?_
        show w_T L xs _ m_X11_check 0 (lv_args 0 [.ref 1, .int (xs ((Int32.ofInt (i : Int)) + (Int32.ofInt 1)).toInt.toNat)]) [] S R _
        refine w_met (v_met 60 146 rw_173 (List.mem_of_getElem? (i := 0) rfl) (Nat.le_of_ble_eq_true rfl)) (Nat.le_of_ble_eq_true rfl) mt_X11_check ⟨rfl, ⟨_, rfl, (q_rng _).1, (q_rng _).2⟩, trivial⟩ hT hO (fun r S1 R1 hT1 hO1 hr hF1 => ?_)
        obtain ⟨u1, hr, -, -⟩ := hr
        subst hr
        have hK1 : S1 0 14 = S1 99 92 := by rw [(hF1 0 14 (by decide +kernel)).1, (hF1 99 92 (by decide +kernel)).1]; exact hK
        refine w_st rfl (fun _ => rfl) ?_
        refine w_st rfl (fun _ => rfl) ?_
        refine w_st rfl (fun _ => rfl) ?_
        refine w_st rfl (fun _ => rfl) ?_
        refine w_st rfl (fun _ => rfl) ?_
        refine w_st rfl (fun _ => rfl) ?_
        show w_T L xs 60 m_L_law 1415 [(3, .int (Int32.ofInt (i : Int))), (2, .ref 100), (1, .ref 1), (0, .ref 0)] [.int ((Int32.ofInt (i : Int)) + (Int32.ofInt 1)), .ref 0, .ref 100] S1 R1 Q
        refine w_sld rfl (by first | (rw [← Int32.ofInt_add, q_ofr (by omega) (by omega)]; omega) | (rw [w_nat (by omega)]; omega)) (by first | (rw [← Int32.ofInt_add, q_ofr (by omega) (by omega)]; omega) | (rw [w_nat (by omega)]; omega)) ?_
        show w_T L xs 60 m_L_law 1416 [(3, .int (Int32.ofInt (i : Int))), (2, .ref 100), (1, .ref 1), (0, .ref 0)] [.int (xs ((Int32.ofInt (i : Int)) + (Int32.ofInt 1)).toInt.toNat), .ref 100] S1 R1 Q
        refine w_cv rfl (by decide) mt_X12_check v_tyM rfl rfl rfl (Nat.le_of_ble_eq_true rfl) (Nat.le_of_ble_eq_true rfl) (Nat.le_of_ble_eq_true rfl) ?_
        show w_T L xs _ m_X12_check 0 (lv_args 0 [.ref 100, .int (xs ((Int32.ofInt (i : Int)) + (Int32.ofInt 1)).toInt.toNat)]) [] S1 R1 _
        refine w_met (v_met 60 296 rw_268 (List.mem_of_getElem? (i := 0) rfl) (Nat.le_of_ble_eq_true rfl)) (Nat.le_of_ble_eq_true rfl) mt_X12_check ⟨rfl, ⟨_, rfl, (q_rng _).1, (q_rng _).2⟩, trivial⟩ hT1 hO1 (fun r S2 R2 hT2 hO2 hr hF2 => ?_)
        obtain ⟨u2, hr, -, -⟩ := hr
        subst hr
        have hK2 : S2 0 14 = S2 99 92 := by rw [(hF2 0 14 (by decide +kernel)).1, (hF2 99 92 (by decide +kernel)).1]; exact hK1
        refine w_st rfl (fun _ => rfl) ?_
        refine w_st rfl (fun _ => rfl) ?_
        show w_T L xs 60 m_L_law 1446 [(3, .int (Int32.ofInt (i : Int))), (2, .ref 100), (1, .ref 1), (0, .ref 0)] [] S2 R2 Q
        exact tail S2 R2 hT2 hO2 hK2
      | 35, hk =>
        obtain rfl : (1390 : Int) = o := Option.some.inj hk
        refine ⟨1423, by decide, ?_⟩
        refine w_st rfl (fun _ => rfl) ?_
        refine w_st rfl (fun _ => rfl) ?_
        refine w_st rfl (fun _ => rfl) ?_
        refine w_st rfl (fun _ => rfl) ?_
        refine w_st rfl (fun _ => rfl) ?_
        show w_T L xs 60 m_L_law 1428 [(3, .int (Int32.ofInt (i : Int))), (2, .ref 100), (1, .ref 1), (0, .ref 0)] [.int ((Int32.ofInt (i : Int)) + (Int32.ofInt 1)), .ref 0, .ref 1] S R Q
        refine w_sld rfl (by first | (rw [← Int32.ofInt_add, q_ofr (by omega) (by omega)]; omega) | (rw [w_nat (by omega)]; omega)) (by first | (rw [← Int32.ofInt_add, q_ofr (by omega) (by omega)]; omega) | (rw [w_nat (by omega)]; omega)) ?_
        show w_T L xs 60 m_L_law 1429 [(3, .int (Int32.ofInt (i : Int))), (2, .ref 100), (1, .ref 1), (0, .ref 0)] [.int (xs ((Int32.ofInt (i : Int)) + (Int32.ofInt 1)).toInt.toNat), .ref 1] S R Q
        refine w_cv rfl (by decide) mt_X11_count v_tyC rfl rfl rfl (Nat.le_of_ble_eq_true rfl) (Nat.le_of_ble_eq_true rfl) (Nat.le_of_ble_eq_true rfl) ?_
        show w_T L xs _ m_X11_count 0 (lv_args 0 [.ref 1, .int (xs ((Int32.ofInt (i : Int)) + (Int32.ofInt 1)).toInt.toNat)]) [] S R _
        refine w_met (v_met 60 132 rw_159 (List.mem_of_getElem? (i := 0) rfl) (Nat.le_of_ble_eq_true rfl)) (Nat.le_of_ble_eq_true rfl) mt_X11_count ⟨rfl, ⟨_, rfl, (q_rng _).1, (q_rng _).2⟩, trivial⟩ hT hO (fun r S1 R1 hT1 hO1 hr hF1 => ?_)
        obtain ⟨u1, hr, -, -⟩ := hr
        subst hr
        have hK1 : S1 0 14 = S1 99 92 := by rw [(hF1 0 14 (by decide +kernel)).1, (hF1 99 92 (by decide +kernel)).1]; exact hK
        refine w_st rfl (fun _ => rfl) ?_
        refine w_st rfl (fun _ => rfl) ?_
        refine w_st rfl (fun _ => rfl) ?_
        refine w_st rfl (fun _ => rfl) ?_
        refine w_st rfl (fun _ => rfl) ?_
        refine w_st rfl (fun _ => rfl) ?_
        show w_T L xs 60 m_L_law 1438 [(3, .int (Int32.ofInt (i : Int))), (2, .ref 100), (1, .ref 1), (0, .ref 0)] [.int ((Int32.ofInt (i : Int)) + (Int32.ofInt 1)), .ref 0, .ref 100] S1 R1 Q
        refine w_sld rfl (by first | (rw [← Int32.ofInt_add, q_ofr (by omega) (by omega)]; omega) | (rw [w_nat (by omega)]; omega)) (by first | (rw [← Int32.ofInt_add, q_ofr (by omega) (by omega)]; omega) | (rw [w_nat (by omega)]; omega)) ?_
        show w_T L xs 60 m_L_law 1439 [(3, .int (Int32.ofInt (i : Int))), (2, .ref 100), (1, .ref 1), (0, .ref 0)] [.int (xs ((Int32.ofInt (i : Int)) + (Int32.ofInt 1)).toInt.toNat), .ref 100] S1 R1 Q
        refine w_cv rfl (by decide) mt_X12_count v_tyM rfl rfl rfl (Nat.le_of_ble_eq_true rfl) (Nat.le_of_ble_eq_true rfl) (Nat.le_of_ble_eq_true rfl) ?_
        show w_T L xs _ m_X12_count 0 (lv_args 0 [.ref 100, .int (xs ((Int32.ofInt (i : Int)) + (Int32.ofInt 1)).toInt.toNat)]) [] S1 R1 _
        refine w_met (v_met 60 298 rw_270 (List.mem_of_getElem? (i := 0) rfl) (Nat.le_of_ble_eq_true rfl)) (Nat.le_of_ble_eq_true rfl) mt_X12_count ⟨rfl, ⟨_, rfl, (q_rng _).1, (q_rng _).2⟩, trivial⟩ hT1 hO1 (fun r S2 R2 hT2 hO2 hr hF2 => ?_)
        obtain ⟨u2, hr, -, -⟩ := hr
        subst hr
        have hK2 : S2 0 14 = S2 99 92 := by rw [(hF2 0 14 (by decide +kernel)).1, (hF2 99 92 (by decide +kernel)).1]; exact hK1
        refine w_st rfl (fun _ => rfl) ?_
        refine w_st rfl (fun _ => rfl) ?_
        show w_T L xs 60 m_L_law 1446 [(3, .int (Int32.ofInt (i : Int))), (2, .ref 100), (1, .ref 1), (0, .ref 0)] [] S2 R2 Q
        exact tail S2 R2 hT2 hO2 hK2
      | n + 36, hk => exact absurd hk (by simp)
set_option maxRecDepth 100000 in
theorem v_S0_K : v_S0 0 14 = v_S0 99 92 := by decide +kernel
