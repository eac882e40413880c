section Prt15
theorem g_wk_ofn {k j : Nat} {w : Cond} (h1 : g_nt (g_tb k) j = some w) (h2 : goodWord w = true) : w ∈ g_wk := g_wk_of ((g_nt_eq _ _).symm.trans h1) h2
theorem g_wkB_mk {k j : Nat} {w : Cond} (h1 : g_nt (g_tb k) j = some w) (h2 : goodWord w = true) : g_wkB k j w = true := by
  unfold g_wkB
  rw [Bool.and_eq_true, decide_eq_true_eq]
  exact ⟨h1, h2⟩
noncomputable def g_kc (c D : String) (k j : Nat) : Bool := (plainName c && (decide (c = D) && (decide (c ≠ "java/lang/invoke/MethodHandle") && decide (c ≠ "java/lang/invoke/VarHandle")))) && g_wkB k j (.initialized c)
noncomputable def g_kp (mx n : Nat) (d : String) : Bool := decide (mx ≤ 45) && decide ((parseMethodDescriptor d).map (fun d => d.parameters.length) = some n)
section MKQ
variable {oc n k1 j1 k2 j2 k3 j3 k4 j4 mx : Nat} {y : MethodName} {c : ByteArray} {rt : Option FieldType} {tt : Nat → Option g_En}
theorem g_mk0 (hc : g_kc y.cls (g_cn oc) k2 j2 = true) (hp : g_kp mx n y.desc = true) (h3 : g_nt (g_tb k3) j3 = some (.static y)) : g_mck (0, n, k1, j1, k2, j2, k3, j3, k4, j4) (g_cn oc, y, c, mx, rt, tt) = true := by
  unfold g_kc at hc
  unfold g_kp at hp
  simp only [Bool.and_eq_true, decide_eq_true_eq] at hc hp
  simp only [g_mck, Bool.and_eq_true, decide_eq_true_eq]
  exact ⟨⟨hc.1.1, hp.1, hc.1.2.1, hc.1.2.2.1, hc.1.2.2.2⟩, hp.2, hc.2, g_wkB_mk h3 rfl⟩
theorem g_mk1 (hc : g_kc y.cls (g_cn oc) k2 j2 = true) (hp : g_kp mx n y.desc = true) (h3 : g_nt (g_tb k3) j3 = some (.instanceMethod y)) (h4 : g_nt (g_tb k4) j4 = some (.selects y.cls y y)) : g_mck (1, n, k1, j1, k2, j2, k3, j3, k4, j4) (g_cn oc, y, c, mx, rt, tt) = true := by
  unfold g_kc at hc
  unfold g_kp at hp
  simp only [Bool.and_eq_true, decide_eq_true_eq] at hc hp
  simp only [g_mck, Bool.and_eq_true, decide_eq_true_eq]
  exact ⟨⟨hc.1.1, hp.1, hc.1.2.1, hc.1.2.2.1, hc.1.2.2.2⟩, hp.2, hc.2, g_wkB_mk h3 rfl, g_wkB_mk h4 rfl⟩
theorem g_mk2 (hc : g_kc y.cls (g_cn oc) k2 j2 = true) (hp : g_kp mx n y.desc = true) (h3 : g_nt (g_tb k3) j3 = some (.instanceMethod y)) (hn : y.name = "<init>") (hr : rt = none) : g_mck (2, n, k1, j1, k2, j2, k3, j3, k4, j4) (g_cn oc, y, c, mx, rt, tt) = true := by
  unfold g_kc at hc
  unfold g_kp at hp
  simp only [Bool.and_eq_true, decide_eq_true_eq] at hc hp
  simp only [g_mck, Bool.and_eq_true, decide_eq_true_eq]
  exact ⟨⟨hc.1.1, hp.1, hc.1.2.1, hc.1.2.2.1, hc.1.2.2.2⟩, hp.2, hc.2, g_wkB_mk h3 rfl, hn, hr⟩
end MKQ
theorem cwX0_init : Cond.code yX0_init cX0_init 4 none ∈ g_wk := g_wk_ofn (k := 2) (j := 35) rfl rfl
theorem klq0 : g_kc RX0 (g_cn 0) 1 9 = true := by decide +kernel
theorem mkX0_init : g_mck (2, 3, 2, 35, 1, 9, 2, 34, 0, 0) (g_cn 0, yX0_init, cX0_init, 4, none, g_look2 ttX0_init) = true := g_mk2 klq0 (by decide +kernel) rfl rfl rfl
theorem cwX0_go : Cond.code yX0_go cX0_go 4 none ∈ g_wk := g_wk_ofn (k := 4) (j := 80) rfl rfl
theorem mkX0_go : g_mck (1, 2, 4, 80, 1, 9, 4, 78, 4, 79) (g_cn 0, yX0_go, cX0_go, 4, none, g_look2 ttX0_go) = true := g_mk1 klq0 (by decide +kernel) rfl rfl
theorem cwX0_pass : Cond.code yX0_pass cX0_pass 4 none ∈ g_wk := g_wk_ofn (k := 4) (j := 84) rfl rfl
theorem mkX0_pass : g_mck (1, 1, 4, 84, 1, 9, 4, 83, 0, 22) (g_cn 0, yX0_pass, cX0_pass, 4, none, g_look2 ttX0_pass) = true := g_mk1 klq0 (by decide +kernel) rfl rfl
theorem cwX0_weaken : Cond.code yX0_weaken cX0_weaken 4 none ∈ g_wk := g_wk_ofn (k := 4) (j := 88) rfl rfl
theorem mkX0_weaken : g_mck (1, 1, 4, 88, 1, 9, 4, 87, 0, 23) (g_cn 0, yX0_weaken, cX0_weaken, 4, none, g_look2 ttX0_weaken) = true := g_mk1 klq0 (by decide +kernel) rfl rfl
theorem cwX0_strengthen : Cond.code yX0_strengthen cX0_strengthen 5 none ∈ g_wk := g_wk_ofn (k := 4) (j := 139) rfl rfl
theorem mkX0_strengthen : g_mck (1, 3, 4, 139, 1, 9, 4, 138, 0, 26) (g_cn 0, yX0_strengthen, cX0_strengthen, 5, none, g_look2 ttX0_strengthen) = true := g_mk1 klq0 (by decide +kernel) rfl rfl
theorem cwX0_teach : Cond.code yX0_teach cX0_teach 7 none ∈ g_wk := g_wk_ofn (k := 4) (j := 144) rfl rfl
theorem mkX0_teach : g_mck (1, 3, 4, 144, 1, 9, 4, 143, 0, 27) (g_cn 0, yX0_teach, cX0_teach, 7, none, g_look2 ttX0_teach) = true := g_mk1 klq0 (by decide +kernel) rfl rfl
theorem cwX0_breakToys : Cond.code yX0_breakToys cX0_breakToys 3 none ∈ g_wk := g_wk_ofn (k := 4) (j := 159) rfl rfl
theorem mkX0_breakToys : g_mck (1, 1, 4, 159, 1, 9, 4, 158, 0, 29) (g_cn 0, yX0_breakToys, cX0_breakToys, 3, none, g_look2 ttX0_breakToys) = true := g_mk1 klq0 (by decide +kernel) rfl rfl
theorem cwX0_quarrelAll : Cond.code yX0_quarrelAll cX0_quarrelAll 5 none ∈ g_wk := g_wk_ofn (k := 4) (j := 163) rfl rfl
theorem mkX0_quarrelAll : g_mck (1, 1, 4, 163, 1, 9, 4, 162, 0, 30) (g_cn 0, yX0_quarrelAll, cX0_quarrelAll, 5, none, g_look2 ttX0_quarrelAll) = true := g_mk1 klq0 (by decide +kernel) rfl rfl
theorem cwX0_recover : Cond.code yX0_recover cX0_recover 3 none ∈ g_wk := g_wk_ofn (k := 4) (j := 175) rfl rfl
theorem mkX0_recover : g_mck (1, 1, 4, 175, 1, 9, 4, 174, 0, 32) (g_cn 0, yX0_recover, cX0_recover, 3, none, g_look2 ttX0_recover) = true := g_mk1 klq0 (by decide +kernel) rfl rfl
theorem cwX0_sicken : Cond.code yX0_sicken cX0_sicken 4 none ∈ g_wk := g_wk_ofn (k := 4) (j := 179) rfl rfl
theorem mkX0_sicken : g_mck (1, 3, 4, 179, 1, 9, 4, 178, 0, 33) (g_cn 0, yX0_sicken, cX0_sicken, 4, none, g_look2 ttX0_sicken) = true := g_mk1 klq0 (by decide +kernel) rfl rfl
theorem cwX0_askRules : Cond.code yX0_askRules cX0_askRules 6 none ∈ g_wk := g_wk_ofn (k := 4) (j := 200) rfl rfl
theorem mkX0_askRules : g_mck (1, 1, 4, 200, 1, 9, 4, 199, 0, 35) (g_cn 0, yX0_askRules, cX0_askRules, 6, none, g_look2 ttX0_askRules) = true := g_mk1 klq0 (by decide +kernel) rfl rfl
theorem cwX1_init : Cond.code yX1_init cX1_init 1 none ∈ g_wk := g_wk_ofn (k := 1) (j := 194) rfl rfl
theorem klq1 : g_kc RX1 (g_cn 1) 1 7 = true := by decide +kernel
theorem mkX1_init : g_mck (2, 0, 1, 194, 1, 7, 1, 193, 0, 0) (g_cn 1, yX1_init, cX1_init, 1, none, g_look2 ttX1_init) = true := g_mk2 klq1 (by decide +kernel) rfl rfl rfl
theorem cwX1_clear : Cond.code yX1_clear cX1_clear 1 none ∈ g_wk := g_wk_ofn (k := 3) (j := 87) rfl rfl
theorem mkX1_clear : g_mck (1, 0, 3, 87, 1, 7, 3, 85, 3, 86) (g_cn 1, yX1_clear, cX1_clear, 1, none, g_look2 ttX1_clear) = true := g_mk1 klq1 (by decide +kernel) rfl rfl
theorem cwX1_openClause : Cond.code yX1_openClause cX1_openClause 2 none ∈ g_wk := g_wk_ofn (k := 3) (j := 107) rfl rfl
theorem mkX1_openClause : g_mck (1, 1, 3, 107, 1, 7, 3, 105, 3, 106) (g_cn 1, yX1_openClause, cX1_openClause, 2, none, g_look2 ttX1_openClause) = true := g_mk1 klq1 (by decide +kernel) rfl rfl
theorem cwX1_openCondition : Cond.code yX1_openCondition cX1_openCondition 1 none ∈ g_wk := g_wk_ofn (k := 3) (j := 230) rfl rfl
theorem mkX1_openCondition : g_mck (1, 0, 3, 230, 1, 7, 3, 228, 3, 229) (g_cn 1, yX1_openCondition, cX1_openCondition, 1, none, g_look2 ttX1_openCondition) = true := g_mk1 klq1 (by decide +kernel) rfl rfl
theorem cwX1_closeClause : Cond.code yX1_closeClause cX1_closeClause 1 none ∈ g_wk := g_wk_ofn (k := 4) (j := 14) rfl rfl
theorem mkX1_closeClause : g_mck (1, 0, 4, 14, 1, 7, 4, 12, 4, 13) (g_cn 1, yX1_closeClause, cX1_closeClause, 1, none, g_look2 ttX1_closeClause) = true := g_mk1 klq1 (by decide +kernel) rfl rfl
theorem cwX1_put : Cond.code yX1_put cX1_put 3 (some .int) ∈ g_wk := g_wk_ofn (k := 3) (j := 222) rfl rfl
theorem mkX1_put : g_mck (1, 2, 3, 222, 1, 7, 3, 220, 3, 221) (g_cn 1, yX1_put, cX1_put, 3, (some .int), g_look2 ttX1_put) = true := g_mk1 klq1 (by decide +kernel) rfl rfl
theorem cwX1_land : Cond.code yX1_land cX1_land 2 none ∈ g_wk := g_wk_ofn (k := 4) (j := 10) rfl rfl
theorem mkX1_land : g_mck (1, 1, 4, 10, 1, 7, 4, 8, 4, 9) (g_cn 1, yX1_land, cX1_land, 2, none, g_look2 ttX1_land) = true := g_mk1 klq1 (by decide +kernel) rfl rfl
theorem cwX1_run : Cond.code yX1_run cX1_run 9 (some .int) ∈ g_wk := g_wk_ofn (k := 4) (j := 110) rfl rfl
theorem mkX1_run : g_mck (1, 2, 4, 110, 1, 7, 4, 108, 4, 109) (g_cn 1, yX1_run, cX1_run, 9, (some .int), g_look2 ttX1_run) = true := g_mk1 klq1 (by decide +kernel) rfl rfl
theorem cwX1_valueAt : Cond.code yX1_valueAt cX1_valueAt 2 (some .int) ∈ g_wk := g_wk_ofn (k := 4) (j := 113) rfl rfl
theorem mkX1_valueAt : g_mck (0, 2, 4, 113, 1, 7, 4, 112, 0, 0) (g_cn 1, yX1_valueAt, cX1_valueAt, 2, (some .int), g_look2 ttX1_valueAt) = true := g_mk0 klq1 (by decide +kernel) rfl
theorem cwX1_join : Cond.code yX1_join cX1_join 3 (some .int) ∈ g_wk := g_wk_ofn (k := 4) (j := 116) rfl rfl
theorem mkX1_join : g_mck (0, 3, 4, 116, 1, 7, 4, 115, 0, 0) (g_cn 1, yX1_join, cX1_join, 3, (some .int), g_look2 ttX1_join) = true := g_mk0 klq1 (by decide +kernel) rfl
theorem cwX2_init : Cond.code yX2_init cX2_init 1 none ∈ g_wk := g_wk_ofn (k := 2) (j := 166) rfl rfl
theorem klq2 : g_kc RX2 (g_cn 2) 1 12 = true := by decide +kernel
theorem mkX2_init : g_mck (2, 0, 2, 166, 1, 12, 2, 165, 0, 0) (g_cn 2, yX2_init, cX2_init, 1, none, g_look2 ttX2_init) = true := g_mk2 klq2 (by decide +kernel) rfl rfl rfl
theorem cwX2_keeperOf : Cond.code yX2_keeperOf cX2_keeperOf 9 (some .int) ∈ g_wk := g_wk_ofn (k := 5) (j := 132) rfl rfl
theorem mkX2_keeperOf : g_mck (1, 3, 5, 132, 1, 12, 5, 130, 5, 131) (g_cn 2, yX2_keeperOf, cX2_keeperOf, 9, (some .int), g_look2 ttX2_keeperOf) = true := g_mk1 klq2 (by decide +kernel) rfl rfl
theorem cwX2_readRow : Cond.code yX2_readRow cX2_readRow 6 (some .boolean) ∈ g_wk := g_wk_ofn (k := 5) (j := 159) rfl rfl
theorem mkX2_readRow : g_mck (1, 2, 5, 159, 1, 12, 5, 157, 5, 158) (g_cn 2, yX2_readRow, cX2_readRow, 6, (some .boolean), g_look2 ttX2_readRow) = true := g_mk1 klq2 (by decide +kernel) rfl rfl
theorem cwX2_envious : Cond.code yX2_envious cX2_envious 7 (some .int) ∈ g_wk := g_wk_ofn (k := 5) (j := 165) rfl rfl
theorem mkX2_envious : g_mck (1, 2, 5, 165, 1, 12, 5, 163, 5, 164) (g_cn 2, yX2_envious, cX2_envious, 7, (some .int), g_look2 ttX2_envious) = true := g_mk1 klq2 (by decide +kernel) rfl rfl
theorem cwX2_highest : Cond.code yX2_highest cX2_highest 4 (some .int) ∈ g_wk := g_wk_ofn (k := 5) (j := 136) rfl rfl
theorem mkX2_highest : g_mck (1, 1, 5, 136, 1, 12, 5, 135, 0, 49) (g_cn 2, yX2_highest, cX2_highest, 4, (some .int), g_look2 ttX2_highest) = true := g_mk1 klq2 (by decide +kernel) rfl rfl
theorem cwX2_dearest : Cond.code yX2_dearest cX2_dearest 6 (some .int) ∈ g_wk := g_wk_ofn (k := 5) (j := 145) rfl rfl
theorem mkX2_dearest : g_mck (1, 3, 5, 145, 1, 12, 5, 144, 0, 51) (g_cn 2, yX2_dearest, cX2_dearest, 6, (some .int), g_look2 ttX2_dearest) = true := g_mk1 klq2 (by decide +kernel) rfl rfl
theorem cwX2_higher : Cond.code yX2_higher cX2_higher 3 (some .boolean) ∈ g_wk := g_wk_ofn (k := 5) (j := 141) rfl rfl
theorem mkX2_higher : g_mck (1, 2, 5, 141, 1, 12, 5, 140, 0, 50) (g_cn 2, yX2_higher, cX2_higher, 3, (some .boolean), g_look2 ttX2_higher) = true := g_mk1 klq2 (by decide +kernel) rfl rfl
theorem cwX2_dearer : Cond.code yX2_dearer cX2_dearer 7 (some .boolean) ∈ g_wk := g_wk_ofn (k := 5) (j := 149) rfl rfl
theorem mkX2_dearer : g_mck (1, 4, 5, 149, 1, 12, 5, 148, 0, 52) (g_cn 2, yX2_dearer, cX2_dearer, 7, (some .boolean), g_look2 ttX2_dearer) = true := g_mk1 klq2 (by decide +kernel) rfl rfl
theorem cwX3_init : Cond.code yX3_init cX3_init 2 none ∈ g_wk := g_wk_ofn (k := 1) (j := 188) rfl rfl
theorem klq3 : g_kc RX3 (g_cn 3) 1 6 = true := by decide +kernel
theorem mkX3_init : g_mck (2, 1, 1, 188, 1, 6, 1, 187, 0, 0) (g_cn 3, yX3_init, cX3_init, 2, none, g_look2 ttX3_init) = true := g_mk2 klq3 (by decide +kernel) rfl rfl rfl
theorem cwX3_exchangeLaw : Cond.code yX3_exchangeLaw cX3_exchangeLaw 3 (some (.object "GustHome$Code")) ∈ g_wk := g_wk_ofn (k := 4) (j := 26) rfl rfl
theorem mkX3_exchangeLaw : g_mck (1, 1, 4, 26, 1, 6, 4, 24, 4, 25) (g_cn 3, yX3_exchangeLaw, cX3_exchangeLaw, 3, (some (.object "GustHome$Code")), g_look2 ttX3_exchangeLaw) = true := g_mk1 klq3 (by decide +kernel) rfl rfl
theorem cwX3_exchangeRules : Cond.code yX3_exchangeRules cX3_exchangeRules 3 (some (.object "GustHome$Code")) ∈ g_wk := g_wk_ofn (k := 4) (j := 35) rfl rfl
theorem mkX3_exchangeRules : g_mck (1, 1, 4, 35, 1, 6, 4, 33, 4, 34) (g_cn 3, yX3_exchangeRules, cX3_exchangeRules, 3, (some (.object "GustHome$Code")), g_look2 ttX3_exchangeRules) = true := g_mk1 klq3 (by decide +kernel) rfl rfl
theorem cwX3_clauses : Cond.code yX3_clauses cX3_clauses 1 (some .int) ∈ g_wk := g_wk_ofn (k := 5) (j := 1) rfl rfl
theorem mkX3_clauses : g_mck (1, 0, 5, 1, 1, 6, 4, 239, 5, 0) (g_cn 3, yX3_clauses, cX3_clauses, 1, (some .int), g_look2 ttX3_clauses) = true := g_mk1 klq3 (by decide +kernel) rfl rfl
theorem cwX3_ruleCount : Cond.code yX3_ruleCount cX3_ruleCount 1 (some .int) ∈ g_wk := g_wk_ofn (k := 5) (j := 5) rfl rfl
theorem mkX3_ruleCount : g_mck (1, 0, 5, 5, 1, 6, 5, 3, 5, 4) (g_cn 3, yX3_ruleCount, cX3_ruleCount, 1, (some .int), g_look2 ttX3_ruleCount) = true := g_mk1 klq3 (by decide +kernel) rfl rfl
theorem cwX3_ofGust : Cond.code yX3_ofGust cX3_ofGust 4 (some .int) ∈ g_wk := g_wk_ofn (k := 4) (j := 93) rfl rfl
theorem mkX3_ofGust : g_mck (1, 3, 4, 93, 1, 6, 4, 91, 4, 92) (g_cn 3, yX3_ofGust, cX3_ofGust, 4, (some .int), g_look2 ttX3_ofGust) = true := g_mk1 klq3 (by decide +kernel) rfl rfl
theorem cwX3_learns : Cond.code yX3_learns cX3_learns 4 (some .boolean) ∈ g_wk := g_wk_ofn (k := 4) (j := 151) rfl rfl
theorem mkX3_learns : g_mck (1, 3, 4, 151, 1, 6, 4, 149, 4, 150) (g_cn 3, yX3_learns, cX3_learns, 4, (some .boolean), g_look2 ttX3_learns) = true := g_mk1 klq3 (by decide +kernel) rfl rfl
theorem cwX3_atOdds : Cond.code yX3_atOdds cX3_atOdds 4 (some .boolean) ∈ g_wk := g_wk_ofn (k := 4) (j := 167) rfl rfl
theorem mkX3_atOdds : g_mck (1, 3, 4, 167, 1, 6, 4, 165, 4, 166) (g_cn 3, yX3_atOdds, cX3_atOdds, 4, (some .boolean), g_look2 ttX3_atOdds) = true := g_mk1 klq3 (by decide +kernel) rfl rfl
theorem cwX3_illness : Cond.code yX3_illness cX3_illness 4 (some .int) ∈ g_wk := g_wk_ofn (k := 4) (j := 189) rfl rfl
theorem mkX3_illness : g_mck (1, 3, 4, 189, 1, 6, 4, 187, 4, 188) (g_cn 3, yX3_illness, cX3_illness, 4, (some .int), g_look2 ttX3_illness) = true := g_mk1 klq3 (by decide +kernel) rfl rfl
theorem cwX3_firstBroken : Cond.code yX3_firstBroken cX3_firstBroken 4 (some .int) ∈ g_wk := g_wk_ofn (k := 4) (j := 204) rfl rfl
theorem mkX3_firstBroken : g_mck (1, 2, 4, 204, 1, 6, 4, 202, 4, 203) (g_cn 3, yX3_firstBroken, cX3_firstBroken, 4, (some .int), g_look2 ttX3_firstBroken) = true := g_mk1 klq3 (by decide +kernel) rfl rfl
theorem cwX3_lookAtGust : Cond.code yX3_lookAtGust cX3_lookAtGust 4 none ∈ g_wk := g_wk_ofn (k := 4) (j := 97) rfl rfl
theorem mkX3_lookAtGust : g_mck (1, 2, 4, 97, 1, 6, 4, 96, 0, 24) (g_cn 3, yX3_lookAtGust, cX3_lookAtGust, 4, none, g_look2 ttX3_lookAtGust) = true := g_mk1 klq3 (by decide +kernel) rfl rfl
theorem cwX3_lookAtTwo : Cond.code yX3_lookAtTwo cX3_lookAtTwo 4 none ∈ g_wk := g_wk_ofn (k := 4) (j := 171) rfl rfl
theorem mkX3_lookAtTwo : g_mck (1, 3, 4, 171, 1, 6, 4, 170, 0, 31) (g_cn 3, yX3_lookAtTwo, cX3_lookAtTwo, 4, none, g_look2 ttX3_lookAtTwo) = true := g_mk1 klq3 (by decide +kernel) rfl rfl
theorem cwX3_lookAtWard : Cond.code yX3_lookAtWard cX3_lookAtWard 6 none ∈ g_wk := g_wk_ofn (k := 4) (j := 193) rfl rfl
theorem mkX3_lookAtWard : g_mck (1, 2, 4, 193, 1, 6, 4, 192, 0, 34) (g_cn 3, yX3_lookAtWard, cX3_lookAtWard, 6, none, g_look2 ttX3_lookAtWard) = true := g_mk1 klq3 (by decide +kernel) rfl rfl
theorem cwX3_firstAmount : Cond.code yX3_firstAmount cX3_firstAmount 4 (some .int) ∈ g_wk := g_wk_ofn (k := 4) (j := 106) rfl rfl
theorem mkX3_firstAmount : g_mck (1, 2, 4, 106, 1, 6, 4, 105, 0, 25) (g_cn 3, yX3_firstAmount, cX3_firstAmount, 4, (some .int), g_look2 ttX3_firstAmount) = true := g_mk1 klq3 (by decide +kernel) rfl rfl
theorem cwX3_anyHolds : Cond.code yX3_anyHolds cX3_anyHolds 3 (some .boolean) ∈ g_wk := g_wk_ofn (k := 4) (j := 155) rfl rfl
theorem mkX3_anyHolds : g_mck (1, 1, 4, 155, 1, 6, 4, 154, 0, 28) (g_cn 3, yX3_anyHolds, cX3_anyHolds, 3, (some .boolean), g_look2 ttX3_anyHolds) = true := g_mk1 klq3 (by decide +kernel) rfl rfl
theorem cwX4_init : Cond.code yX4_init cX4_init 3 none ∈ g_wk := g_wk_ofn (k := 2) (j := 71) rfl rfl
theorem klq4 : g_kc RX4 (g_cn 4) 1 10 = true := by decide +kernel
theorem mkX4_init : g_mck (2, 2, 2, 71, 1, 10, 2, 70, 0, 0) (g_cn 4, yX4_init, cX4_init, 3, none, g_look2 ttX4_init) = true := g_mk2 klq4 (by decide +kernel) rfl rfl rfl
theorem cwX4_lodge : Cond.code yX4_lodge cX4_lodge 5 (some .boolean) ∈ g_wk := g_wk_ofn (k := 5) (j := 25) rfl rfl
theorem mkX4_lodge : g_mck (1, 3, 5, 25, 1, 10, 5, 23, 5, 24) (g_cn 4, yX4_lodge, cX4_lodge, 5, (some .boolean), g_look2 ttX4_lodge) = true := g_mk1 klq4 (by decide +kernel) rfl rfl
theorem cwX4_staff : Cond.code yX4_staff cX4_staff 6 none ∈ g_wk := g_wk_ofn (k := 5) (j := 194) rfl rfl
theorem mkX4_staff : g_mck (1, 3, 5, 194, 1, 10, 5, 192, 5, 193) (g_cn 4, yX4_staff, cX4_staff, 6, none, g_look2 ttX4_staff) = true := g_mk1 klq4 (by decide +kernel) rfl rfl
theorem cwX4_chosenFor : Cond.code yX4_chosenFor cX4_chosenFor 4 (some .int) ∈ g_wk := g_wk_ofn (k := 5) (j := 49) rfl rfl
theorem mkX4_chosenFor : g_mck (1, 2, 5, 49, 1, 10, 5, 47, 5, 48) (g_cn 4, yX4_chosenFor, cX4_chosenFor, 4, (some .int), g_look2 ttX4_chosenFor) = true := g_mk1 klq4 (by decide +kernel) rfl rfl
theorem cwX4_ring : Cond.code yX4_ring cX4_ring 6 (some .int) ∈ g_wk := g_wk_ofn (k := 5) (j := 207) rfl rfl
theorem mkX4_ring : g_mck (1, 2, 5, 207, 1, 10, 5, 205, 5, 206) (g_cn 4, yX4_ring, cX4_ring, 6, (some .int), g_look2 ttX4_ring) = true := g_mk1 klq4 (by decide +kernel) rfl rfl
theorem cwX4_ringAt : Cond.code yX4_ringAt cX4_ringAt 2 (some .int) ∈ g_wk := g_wk_ofn (k := 5) (j := 223) rfl rfl
theorem mkX4_ringAt : g_mck (1, 1, 5, 223, 1, 10, 5, 221, 5, 222) (g_cn 4, yX4_ringAt, cX4_ringAt, 2, (some .int), g_look2 ttX4_ringAt) = true := g_mk1 klq4 (by decide +kernel) rfl rfl
theorem cwX4_spread : Cond.code yX4_spread cX4_spread 4 (some .int) ∈ g_wk := g_wk_ofn (k := 5) (j := 28) rfl rfl
theorem mkX4_spread : g_mck (0, 2, 5, 28, 1, 10, 5, 27, 0, 0) (g_cn 4, yX4_spread, cX4_spread, 4, (some .int), g_look2 ttX4_spread) = true := g_mk0 klq4 (by decide +kernel) rfl
theorem cwX4_learnOdds : Cond.code yX4_learnOdds cX4_learnOdds 4 none ∈ g_wk := g_wk_ofn (k := 5) (j := 33) rfl rfl
theorem mkX4_learnOdds : g_mck (1, 1, 5, 33, 1, 10, 5, 32, 0, 37) (g_cn 4, yX4_learnOdds, cX4_learnOdds, 4, none, g_look2 ttX4_learnOdds) = true := g_mk1 klq4 (by decide +kernel) rfl rfl
theorem cwX4_lodgeFrom : Cond.code yX4_lodgeFrom cX4_lodgeFrom 5 none ∈ g_wk := g_wk_ofn (k := 5) (j := 39) rfl rfl
theorem mkX4_lodgeFrom : g_mck (1, 2, 5, 39, 1, 10, 5, 38, 0, 38) (g_cn 4, yX4_lodgeFrom, cX4_lodgeFrom, 5, none, g_look2 ttX4_lodgeFrom) = true := g_mk1 klq4 (by decide +kernel) rfl rfl
theorem cwX4_staffFrom : Cond.code yX4_staffFrom cX4_staffFrom 5 none ∈ g_wk := g_wk_ofn (k := 5) (j := 199) rfl rfl
theorem mkX4_staffFrom : g_mck (1, 3, 5, 199, 1, 10, 5, 198, 0, 56) (g_cn 4, yX4_staffFrom, cX4_staffFrom, 5, none, g_look2 ttX4_staffFrom) = true := g_mk1 klq4 (by decide +kernel) rfl rfl
theorem cwX4_keepRow : Cond.code yX4_keepRow cX4_keepRow 2 none ∈ g_wk := g_wk_ofn (k := 5) (j := 43) rfl rfl
theorem mkX4_keepRow : g_mck (1, 1, 5, 43, 1, 10, 5, 42, 0, 39) (g_cn 4, yX4_keepRow, cX4_keepRow, 2, none, g_look2 ttX4_keepRow) = true := g_mk1 klq4 (by decide +kernel) rfl rfl
theorem cwX4_waysOn : Cond.code yX4_waysOn cX4_waysOn 6 (some .int) ∈ g_wk := g_wk_ofn (k := 5) (j := 211) rfl rfl
theorem mkX4_waysOn : g_mck (1, 3, 5, 211, 1, 10, 5, 210, 0, 57) (g_cn 4, yX4_waysOn, cX4_waysOn, 6, (some .int), g_look2 ttX4_waysOn) = true := g_mk1 klq4 (by decide +kernel) rfl rfl
theorem cwX4_walkFirst : Cond.code yX4_walkFirst cX4_walkFirst 5 none ∈ g_wk := g_wk_ofn (k := 5) (j := 215) rfl rfl
theorem mkX4_walkFirst : g_mck (1, 0, 5, 215, 1, 10, 5, 214, 0, 58) (g_cn 4, yX4_walkFirst, cX4_walkFirst, 5, none, g_look2 ttX4_walkFirst) = true := g_mk1 klq4 (by decide +kernel) rfl rfl
theorem cwX4_firstOn : Cond.code yX4_firstOn cX4_firstOn 4 (some .int) ∈ g_wk := g_wk_ofn (k := 5) (j := 219) rfl rfl
theorem mkX4_firstOn : g_mck (1, 2, 5, 219, 1, 10, 5, 218, 0, 59) (g_cn 4, yX4_firstOn, cX4_firstOn, 4, (some .int), g_look2 ttX4_firstOn) = true := g_mk1 klq4 (by decide +kernel) rfl rfl
theorem cwX5_init : Cond.code yX5_init cX5_init 2 none ∈ g_wk := g_wk_ofn (k := 2) (j := 3) rfl rfl
theorem klq5 : g_kc RX5 (g_cn 5) 1 8 = true := by decide +kernel
theorem mkX5_init : g_mck (2, 1, 2, 3, 1, 8, 2, 2, 0, 0) (g_cn 5, yX5_init, cX5_init, 2, none, g_look2 ttX5_init) = true := g_mk2 klq5 (by decide +kernel) rfl rfl rfl
theorem cwX5_readText : Cond.code yX5_readText cX5_readText 4 (some .int) ∈ g_wk := g_wk_ofn (k := 3) (j := 79) rfl rfl
theorem mkX5_readText : g_mck (1, 2, 3, 79, 1, 8, 3, 77, 3, 78) (g_cn 5, yX5_readText, cX5_readText, 4, (some .int), g_look2 ttX5_readText) = true := g_mk1 klq5 (by decide +kernel) rfl rfl
theorem cwX5_readTimetable : Cond.code yX5_readTimetable cX5_readTimetable 2 (some .int) ∈ g_wk := g_wk_ofn (k := 4) (j := 43) rfl rfl
theorem mkX5_readTimetable : g_mck (1, 1, 4, 43, 1, 8, 4, 41, 4, 42) (g_cn 5, yX5_readTimetable, cX5_readTimetable, 2, (some .int), g_look2 ttX5_readTimetable) = true := g_mk1 klq5 (by decide +kernel) rfl rfl
theorem cwX5_begin : Cond.code yX5_begin cX5_begin 2 none ∈ g_wk := g_wk_ofn (k := 3) (j := 83) rfl rfl
theorem mkX5_begin : g_mck (1, 1, 3, 83, 1, 8, 3, 82, 0, 1) (g_cn 5, yX5_begin, cX5_begin, 2, none, g_look2 ttX5_begin) = true := g_mk1 klq5 (by decide +kernel) rfl rfl
theorem cwX5_here : Cond.code yX5_here cX5_here 1 (some .int) ∈ g_wk := g_wk_ofn (k := 3) (j := 95) rfl rfl
theorem mkX5_here : g_mck (1, 0, 3, 95, 1, 8, 3, 94, 0, 3) (g_cn 5, yX5_here, cX5_here, 1, (some .int), g_look2 ttX5_here) = true := g_mk1 klq5 (by decide +kernel) rfl rfl
theorem cwX5_fail : Cond.code yX5_fail cX5_fail 3 none ∈ g_wk := g_wk_ofn (k := 3) (j := 103) rfl rfl
theorem mkX5_fail : g_mck (1, 2, 3, 103, 1, 8, 3, 102, 0, 4) (g_cn 5, yX5_fail, cX5_fail, 3, none, g_look2 ttX5_fail) = true := g_mk1 klq5 (by decide +kernel) rfl rfl
theorem cwX5_expect : Cond.code yX5_expect cX5_expect 2 none ∈ g_wk := g_wk_ofn (k := 3) (j := 214) rfl rfl
theorem mkX5_expect : g_mck (1, 1, 3, 214, 1, 8, 3, 213, 0, 9) (g_cn 5, yX5_expect, cX5_expect, 2, none, g_look2 ttX5_expect) = true := g_mk1 klq5 (by decide +kernel) rfl rfl
theorem cwX5_opens : Cond.code yX5_opens cX5_opens 2 (some .boolean) ∈ g_wk := g_wk_ofn (k := 3) (j := 210) rfl rfl
theorem mkX5_opens : g_mck (1, 1, 3, 210, 1, 8, 3, 209, 0, 8) (g_cn 5, yX5_opens, cX5_opens, 2, (some .boolean), g_look2 ttX5_opens) = true := g_mk1 klq5 (by decide +kernel) rfl rfl
theorem cwX5_readClause : Cond.code yX5_readClause cX5_readClause 4 none ∈ g_wk := g_wk_ofn (k := 3) (j := 91) rfl rfl
theorem mkX5_readClause : g_mck (1, 0, 3, 91, 1, 8, 3, 90, 0, 2) (g_cn 5, yX5_readClause, cX5_readClause, 4, none, g_look2 ttX5_readClause) = true := g_mk1 klq5 (by decide +kernel) rfl rfl
theorem cwX5_readRule : Cond.code yX5_readRule cX5_readRule 1 none ∈ g_wk := g_wk_ofn (k := 4) (j := 18) rfl rfl
theorem mkX5_readRule : g_mck (1, 0, 4, 18, 1, 8, 4, 17, 0, 16) (g_cn 5, yX5_readRule, cX5_readRule, 1, none, g_look2 ttX5_readRule) = true := g_mk1 klq5 (by decide +kernel) rfl rfl
theorem cwX5_readWhole : Cond.code yX5_readWhole cX5_readWhole 1 none ∈ g_wk := g_wk_ofn (k := 3) (j := 226) rfl rfl
theorem mkX5_readWhole : g_mck (1, 0, 3, 226, 1, 8, 3, 225, 0, 11) (g_cn 5, yX5_readWhole, cX5_readWhole, 1, none, g_look2 ttX5_readWhole) = true := g_mk1 klq5 (by decide +kernel) rfl rfl
theorem cwX5_readBracket : Cond.code yX5_readBracket cX5_readBracket 2 none ∈ g_wk := g_wk_ofn (k := 3) (j := 234) rfl rfl
theorem mkX5_readBracket : g_mck (1, 1, 3, 234, 1, 8, 3, 233, 0, 12) (g_cn 5, yX5_readBracket, cX5_readBracket, 2, none, g_look2 ttX5_readBracket) = true := g_mk1 klq5 (by decide +kernel) rfl rfl
theorem cwX5_readCondition : Cond.code yX5_readCondition cX5_readCondition 4 none ∈ g_wk := g_wk_ofn (k := 3) (j := 238) rfl rfl
theorem mkX5_readCondition : g_mck (1, 1, 3, 238, 1, 8, 3, 237, 0, 13) (g_cn 5, yX5_readCondition, cX5_readCondition, 4, none, g_look2 ttX5_readCondition) = true := g_mk1 klq5 (by decide +kernel) rfl rfl
theorem cwX5_readPart : Cond.code yX5_readPart cX5_readPart 4 none ∈ g_wk := g_wk_ofn (k := 4) (j := 2) rfl rfl
theorem mkX5_readPart : g_mck (1, 1, 4, 2, 1, 8, 4, 1, 0, 14) (g_cn 5, yX5_readPart, cX5_readPart, 4, none, g_look2 ttX5_readPart) = true := g_mk1 klq5 (by decide +kernel) rfl rfl
theorem cwX5_readTest : Cond.code yX5_readTest cX5_readTest 4 none ∈ g_wk := g_wk_ofn (k := 4) (j := 6) rfl rfl
theorem mkX5_readTest : g_mck (1, 1, 4, 6, 1, 8, 4, 5, 0, 15) (g_cn 5, yX5_readTest, cX5_readTest, 4, none, g_look2 ttX5_readTest) = true := g_mk1 klq5 (by decide +kernel) rfl rfl
theorem cwX5_readSum : Cond.code yX5_readSum cX5_readSum 4 none ∈ g_wk := g_wk_ofn (k := 3) (j := 111) rfl rfl
theorem mkX5_readSum : g_mck (1, 1, 3, 111, 1, 8, 3, 110, 0, 5) (g_cn 5, yX5_readSum, cX5_readSum, 4, none, g_look2 ttX5_readSum) = true := g_mk1 klq5 (by decide +kernel) rfl rfl
theorem cwX5_readTerm : Cond.code yX5_readTerm cX5_readTerm 4 none ∈ g_wk := g_wk_ofn (k := 3) (j := 115) rfl rfl
theorem mkX5_readTerm : g_mck (1, 1, 3, 115, 1, 8, 3, 114, 0, 6) (g_cn 5, yX5_readTerm, cX5_readTerm, 4, none, g_look2 ttX5_readTerm) = true := g_mk1 klq5 (by decide +kernel) rfl rfl
theorem cwX5_readFactor : Cond.code yX5_readFactor cX5_readFactor 4 none ∈ g_wk := g_wk_ofn (k := 3) (j := 119) rfl rfl
theorem mkX5_readFactor : g_mck (1, 1, 3, 119, 1, 8, 3, 118, 0, 7) (g_cn 5, yX5_readFactor, cX5_readFactor, 4, none, g_look2 ttX5_readFactor) = true := g_mk1 klq5 (by decide +kernel) rfl rfl
theorem cwX5_readNumber : Cond.code yX5_readNumber cX5_readNumber 3 none ∈ g_wk := g_wk_ofn (k := 3) (j := 218) rfl rfl
theorem mkX5_readNumber : g_mck (1, 0, 3, 218, 1, 8, 3, 217, 0, 10) (g_cn 5, yX5_readNumber, cX5_readNumber, 3, none, g_look2 ttX5_readNumber) = true := g_mk1 klq5 (by decide +kernel) rfl rfl
theorem cwX5_readMonths : Cond.code yX5_readMonths cX5_readMonths 3 none ∈ g_wk := g_wk_ofn (k := 4) (j := 47) rfl rfl
theorem mkX5_readMonths : g_mck (1, 1, 4, 47, 1, 8, 4, 46, 0, 17) (g_cn 5, yX5_readMonths, cX5_readMonths, 3, none, g_look2 ttX5_readMonths) = true := g_mk1 klq5 (by decide +kernel) rfl rfl
theorem cwX5_readMonth : Cond.code yX5_readMonth cX5_readMonth 6 none ∈ g_wk := g_wk_ofn (k := 4) (j := 51) rfl rfl
theorem mkX5_readMonth : g_mck (1, 1, 4, 51, 1, 8, 4, 50, 0, 18) (g_cn 5, yX5_readMonth, cX5_readMonth, 6, none, g_look2 ttX5_readMonth) = true := g_mk1 klq5 (by decide +kernel) rfl rfl
theorem cwX5_readGroup : Cond.code yX5_readGroup cX5_readGroup 2 none ∈ g_wk := g_wk_ofn (k := 4) (j := 55) rfl rfl
theorem mkX5_readGroup : g_mck (1, 1, 4, 55, 1, 8, 4, 54, 0, 19) (g_cn 5, yX5_readGroup, cX5_readGroup, 2, none, g_look2 ttX5_readGroup) = true := g_mk1 klq5 (by decide +kernel) rfl rfl
theorem cwX5_writeMonth : Cond.code yX5_writeMonth cX5_writeMonth 2 none ∈ g_wk := g_wk_ofn (k := 4) (j := 59) rfl rfl
theorem mkX5_writeMonth : g_mck (1, 1, 4, 59, 1, 8, 4, 58, 0, 20) (g_cn 5, yX5_writeMonth, cX5_writeMonth, 2, none, g_look2 ttX5_writeMonth) = true := g_mk1 klq5 (by decide +kernel) rfl rfl
theorem cwX5_repeat : Cond.code yX5_repeat cX5_repeat 7 none ∈ g_wk := g_wk_ofn (k := 4) (j := 63) rfl rfl
theorem mkX5_repeat : g_mck (1, 3, 4, 63, 1, 8, 4, 62, 0, 21) (g_cn 5, yX5_repeat, cX5_repeat, 7, none, g_look2 ttX5_repeat) = true := g_mk1 klq5 (by decide +kernel) rfl rfl
theorem cwX6_init : Cond.code yX6_init cX6_init 1 none ∈ g_wk := g_wk_ofn (k := 1) (j := 172) rfl rfl
theorem klq6 : g_kc RX6 (g_cn 6) 1 5 = true := by decide +kernel
theorem mkX6_init : g_mck (2, 0, 1, 172, 1, 5, 1, 171, 0, 0) (g_cn 6, yX6_init, cX6_init, 1, none, g_look2 ttX6_init) = true := g_mk2 klq6 (by decide +kernel) rfl rfl rfl
theorem cwX6_order : Cond.code yX6_order cX6_order 8 (some .int) ∈ g_wk := g_wk_ofn (k := 5) (j := 114) rfl rfl
theorem mkX6_order : g_mck (1, 2, 5, 114, 1, 5, 5, 112, 5, 113) (g_cn 6, yX6_order, cX6_order, 8, (some .int), g_look2 ttX6_order) = true := g_mk1 klq6 (by decide +kernel) rfl rfl
theorem cwX6_withNeeds : Cond.code yX6_withNeeds cX6_withNeeds 6 (some .int) ∈ g_wk := g_wk_ofn (k := 5) (j := 118) rfl rfl
theorem mkX6_withNeeds : g_mck (1, 2, 5, 118, 1, 5, 5, 117, 0, 47) (g_cn 6, yX6_withNeeds, cX6_withNeeds, 6, (some .int), g_look2 ttX6_withNeeds) = true := g_mk1 klq6 (by decide +kernel) rfl rfl
theorem cwX6_lowestReady : Cond.code yX6_lowestReady cX6_lowestReady 4 (some .int) ∈ g_wk := g_wk_ofn (k := 5) (j := 124) rfl rfl
theorem mkX6_lowestReady : g_mck (1, 2, 5, 124, 1, 5, 5, 123, 0, 48) (g_cn 6, yX6_lowestReady, cX6_lowestReady, 4, (some .int), g_look2 ttX6_lowestReady) = true := g_mk1 klq6 (by decide +kernel) rfl rfl
theorem cwX7_init : Cond.code yX7_init cX7_init 1 none ∈ g_wk := g_wk_ofn (k := 1) (j := 35) rfl rfl
theorem klq7 : g_kc RX7 (g_cn 7) 1 2 = true := by decide +kernel
theorem mkX7_init : g_mck (2, 0, 1, 35, 1, 2, 1, 34, 0, 0) (g_cn 7, yX7_init, cX7_init, 1, none, g_look2 ttX7_init) = true := g_mk2 klq7 (by decide +kernel) rfl rfl rfl
theorem cwX7_hasGust : Cond.code yX7_hasGust cX7_hasGust 2 (some .boolean) ∈ g_wk := g_wk_ofn (k := 3) (j := 7) rfl rfl
theorem mkX7_hasGust : g_mck (1, 1, 3, 7, 1, 2, 3, 5, 3, 6) (g_cn 7, yX7_hasGust, cX7_hasGust, 2, (some .boolean), g_look2 ttX7_hasGust) = true := g_mk1 klq7 (by decide +kernel) rfl rfl
theorem cwX7_hasNurse : Cond.code yX7_hasNurse cX7_hasNurse 2 (some .boolean) ∈ g_wk := g_wk_ofn (k := 4) (j := 135) rfl rfl
theorem mkX7_hasNurse : g_mck (1, 1, 4, 135, 1, 2, 4, 133, 4, 134) (g_cn 7, yX7_hasNurse, cX7_hasNurse, 2, (some .boolean), g_look2 ttX7_hasNurse) = true := g_mk1 klq7 (by decide +kernel) rfl rfl
theorem cwX7_works : Cond.code yX7_works cX7_works 2 (some .boolean) ∈ g_wk := g_wk_ofn (k := 4) (j := 131) rfl rfl
theorem mkX7_works : g_mck (1, 1, 4, 131, 1, 2, 4, 129, 4, 130) (g_cn 7, yX7_works, cX7_works, 2, (some .boolean), g_look2 ttX7_works) = true := g_mk1 klq7 (by decide +kernel) rfl rfl
theorem cwX7_inWard : Cond.code yX7_inWard cX7_inWard 4 (some .int) ∈ g_wk := g_wk_ofn (k := 3) (j := 19) rfl rfl
theorem mkX7_inWard : g_mck (1, 1, 3, 19, 1, 2, 3, 17, 3, 18) (g_cn 7, yX7_inWard, cX7_inWard, 4, (some .int), g_look2 ttX7_inWard) = true := g_mk1 klq7 (by decide +kernel) rfl rfl
theorem cwX7_draw : Cond.code yX7_draw cX7_draw 1 (some .int) ∈ g_wk := g_wk_ofn (k := 4) (j := 184) rfl rfl
theorem mkX7_draw : g_mck (1, 0, 4, 184, 1, 2, 4, 182, 4, 183) (g_cn 7, yX7_draw, cX7_draw, 1, (some .int), g_look2 ttX7_draw) = true := g_mk1 klq7 (by decide +kernel) rfl rfl
theorem cwX7_copy : Cond.code yX7_copy cX7_copy 2 none ∈ g_wk := g_wk_ofn (k := 4) (j := 212) rfl rfl
theorem mkX7_copy : g_mck (1, 1, 4, 212, 1, 2, 4, 210, 4, 211) (g_cn 7, yX7_copy, cX7_copy, 2, none, g_look2 ttX7_copy) = true := g_mk1 klq7 (by decide +kernel) rfl rfl
theorem cwX8_init : Cond.code yX8_init cX8_init 1 none ∈ g_wk := g_wk_ofn (k := 1) (j := 158) rfl rfl
theorem klq8 : g_kc RX8 (g_cn 8) 1 4 = true := by decide +kernel
theorem mkX8_init : g_mck (2, 0, 1, 158, 1, 4, 1, 157, 0, 0) (g_cn 8, yX8_init, cX8_init, 1, none, g_look2 ttX8_init) = true := g_mk2 klq8 (by decide +kernel) rfl rfl rfl
theorem cwX8_takes : Cond.code yX8_takes cX8_takes 2 (some .boolean) ∈ g_wk := g_wk_ofn (k := 3) (j := 67) rfl rfl
theorem mkX8_takes : g_mck (1, 1, 3, 67, 1, 4, 3, 65, 3, 66) (g_cn 8, yX8_takes, cX8_takes, 2, (some .boolean), g_look2 ttX8_takes) = true := g_mk1 klq8 (by decide +kernel) rfl rfl
theorem cwX8_append : Cond.code yX8_append cX8_append 3 none ∈ g_wk := g_wk_ofn (k := 3) (j := 71) rfl rfl
theorem mkX8_append : g_mck (1, 1, 3, 71, 1, 4, 3, 69, 3, 70) (g_cn 8, yX8_append, cX8_append, 3, none, g_look2 ttX8_append) = true := g_mk1 klq8 (by decide +kernel) rfl rfl
theorem cwX8_at : Cond.code yX8_at cX8_at 2 (some .int) ∈ g_wk := g_wk_ofn (k := 3) (j := 99) rfl rfl
theorem mkX8_at : g_mck (1, 1, 3, 99, 1, 4, 3, 97, 3, 98) (g_cn 8, yX8_at, cX8_at, 2, (some .int), g_look2 ttX8_at) = true := g_mk1 klq8 (by decide +kernel) rfl rfl
theorem cwX8_empty : Cond.code yX8_empty cX8_empty 1 none ∈ g_wk := g_wk_ofn (k := 4) (j := 22) rfl rfl
theorem mkX8_empty : g_mck (1, 0, 4, 22, 1, 4, 4, 20, 4, 21) (g_cn 8, yX8_empty, cX8_empty, 1, none, g_look2 ttX8_empty) = true := g_mk1 klq8 (by decide +kernel) rfl rfl
theorem cwX9_init : Cond.code yX9_init cX9_init 1 none ∈ g_wk := g_wk_ofn (k := 1) (j := 128) rfl rfl
theorem klq9 : g_kc RX9 (g_cn 9) 1 3 = true := by decide +kernel
theorem mkX9_init : g_mck (2, 0, 1, 128, 1, 3, 1, 127, 0, 0) (g_cn 9, yX9_init, cX9_init, 1, none, g_look2 ttX9_init) = true := g_mk2 klq9 (by decide +kernel) rfl rfl rfl
theorem cwX9_learnFrom : Cond.code yX9_learnFrom cX9_learnFrom 3 none ∈ g_wk := g_wk_ofn (k := 4) (j := 67) rfl rfl
theorem mkX9_learnFrom : g_mck (1, 2, 4, 67, 1, 3, 4, 65, 4, 66) (g_cn 9, yX9_learnFrom, cX9_learnFrom, 3, none, g_look2 ttX9_learnFrom) = true := g_mk1 klq9 (by decide +kernel) rfl rfl
theorem cwX9_lessonAt : Cond.code yX9_lessonAt cX9_lessonAt 2 (some .int) ∈ g_wk := g_wk_ofn (k := 4) (j := 123) rfl rfl
theorem mkX9_lessonAt : g_mck (1, 1, 4, 123, 1, 3, 4, 121, 4, 122) (g_cn 9, yX9_lessonAt, cX9_lessonAt, 2, (some .int), g_look2 ttX9_lessonAt) = true := g_mk1 klq9 (by decide +kernel) rfl rfl
theorem cwX9_placeAfter : Cond.code yX9_placeAfter cX9_placeAfter 2 (some .int) ∈ g_wk := g_wk_ofn (k := 4) (j := 127) rfl rfl
theorem mkX9_placeAfter : g_mck (1, 1, 4, 127, 1, 3, 4, 125, 4, 126) (g_cn 9, yX9_placeAfter, cX9_placeAfter, 2, (some .int), g_look2 ttX9_placeAfter) = true := g_mk1 klq9 (by decide +kernel) rfl rfl
theorem cwX10_init : Cond.code yX10_init cX10_init 1 none ∈ g_wk := g_wk_ofn (k := 2) (j := 121) rfl rfl
theorem klq10 : g_kc RX10 (g_cn 10) 1 11 = true := by decide +kernel
theorem mkX10_init : g_mck (2, 0, 2, 121, 1, 11, 2, 120, 0, 0) (g_cn 10, yX10_init, cX10_init, 1, none, g_look2 ttX10_init) = true := g_mk2 klq10 (by decide +kernel) rfl rfl rfl
theorem cwX10_sendOff : Cond.code yX10_sendOff cX10_sendOff 4 none ∈ g_wk := g_wk_ofn (k := 5) (j := 60) rfl rfl
theorem mkX10_sendOff : g_mck (1, 2, 5, 60, 1, 11, 5, 58, 5, 59) (g_cn 10, yX10_sendOff, cX10_sendOff, 4, none, g_look2 ttX10_sendOff) = true := g_mk1 klq10 (by decide +kernel) rfl rfl
theorem cwX10_windOf : Cond.code yX10_windOf cX10_windOf 4 (some .int) ∈ g_wk := g_wk_ofn (k := 5) (j := 84) rfl rfl
theorem mkX10_windOf : g_mck (1, 2, 5, 84, 1, 11, 5, 82, 5, 83) (g_cn 10, yX10_windOf, cX10_windOf, 4, (some .int), g_look2 ttX10_windOf) = true := g_mk1 klq10 (by decide +kernel) rfl rfl
theorem cwX10_sendFrom : Cond.code yX10_sendFrom cX10_sendFrom 8 none ∈ g_wk := g_wk_ofn (k := 5) (j := 66) rfl rfl
theorem mkX10_sendFrom : g_mck (1, 4, 5, 66, 1, 11, 5, 65, 0, 40) (g_cn 10, yX10_sendFrom, cX10_sendFrom, 8, none, g_look2 ttX10_sendFrom) = true := g_mk1 klq10 (by decide +kernel) rfl rfl
theorem cwX10_mayBeat : Cond.code yX10_mayBeat cX10_mayBeat 3 (some .boolean) ∈ g_wk := g_wk_ofn (k := 5) (j := 70) rfl rfl
theorem mkX10_mayBeat : g_mck (1, 2, 5, 70, 1, 11, 5, 69, 0, 41) (g_cn 10, yX10_mayBeat, cX10_mayBeat, 3, (some .boolean), g_look2 ttX10_mayBeat) = true := g_mk1 klq10 (by decide +kernel) rfl rfl
theorem cwX10_windOfGale : Cond.code yX10_windOfGale cX10_windOfGale 4 (some .int) ∈ g_wk := g_wk_ofn (k := 5) (j := 75) rfl rfl
theorem mkX10_windOfGale : g_mck (1, 2, 5, 75, 1, 11, 5, 74, 0, 42) (g_cn 10, yX10_windOfGale, cX10_windOfGale, 4, (some .int), g_look2 ttX10_windOfGale) = true := g_mk1 klq10 (by decide +kernel) rfl rfl
theorem cwX10_carries : Cond.code yX10_carries cX10_carries 5 (some .boolean) ∈ g_wk := g_wk_ofn (k := 5) (j := 79) rfl rfl
theorem mkX10_carries : g_mck (1, 3, 5, 79, 1, 11, 5, 78, 0, 43) (g_cn 10, yX10_carries, cX10_carries, 5, (some .boolean), g_look2 ttX10_carries) = true := g_mk1 klq10 (by decide +kernel) rfl rfl
theorem cwX11_init : Cond.code yX11_init cX11_init 5 none ∈ g_wk := g_wk_ofn (k := 1) (j := 27) rfl rfl
theorem klq11 : g_kc RX11 (g_cn 11) 1 1 = true := by decide +kernel
theorem mkX11_init : g_mck (2, 0, 1, 27, 1, 1, 1, 26, 0, 0) (g_cn 11, yX11_init, cX11_init, 5, none, g_look2 ttX11_init) = true := g_mk2 klq11 (by decide +kernel) rfl rfl rfl
theorem cwX11_gust : Cond.code yX11_gust cX11_gust 7 (some .boolean) ∈ g_wk := g_wk_ofn (k := 2) (j := 236) rfl rfl
theorem mkX11_gust : g_mck (1, 5, 2, 236, 1, 1, 2, 234, 2, 235) (g_cn 11, yX11_gust, cX11_gust, 7, (some .boolean), g_look2 ttX11_gust) = true := g_mk1 klq11 (by decide +kernel) rfl rfl
theorem cwX11_name : Cond.code yX11_name cX11_name 3 (some .boolean) ∈ g_wk := g_wk_ofn (k := 3) (j := 3) rfl rfl
theorem mkX11_name : g_mck (1, 2, 3, 3, 1, 1, 3, 1, 3, 2) (g_cn 11, yX11_name, cX11_name, 3, (some .boolean), g_look2 ttX11_name) = true := g_mk1 klq11 (by decide +kernel) rfl rfl
theorem cwX11_moves : Cond.code yX11_moves cX11_moves 4 (some .boolean) ∈ g_wk := g_wk_ofn (k := 3) (j := 11) rfl rfl
theorem mkX11_moves : g_mck (1, 2, 3, 11, 1, 1, 3, 9, 3, 10) (g_cn 11, yX11_moves, cX11_moves, 4, (some .boolean), g_look2 ttX11_moves) = true := g_mk1 klq11 (by decide +kernel) rfl rfl
theorem cwX11_habit : Cond.code yX11_habit cX11_habit 5 (some .boolean) ∈ g_wk := g_wk_ofn (k := 3) (j := 30) rfl rfl
theorem mkX11_habit : g_mck (1, 3, 3, 30, 1, 1, 3, 28, 3, 29) (g_cn 11, yX11_habit, cX11_habit, 5, (some .boolean), g_look2 ttX11_habit) = true := g_mk1 klq11 (by decide +kernel) rfl rfl
theorem cwX11_ward : Cond.code yX11_ward cX11_ward 7 (some .boolean) ∈ g_wk := g_wk_ofn (k := 3) (j := 34) rfl rfl
theorem mkX11_ward : g_mck (1, 4, 3, 34, 1, 1, 3, 32, 3, 33) (g_cn 11, yX11_ward, cX11_ward, 7, (some .boolean), g_look2 ttX11_ward) = true := g_mk1 klq11 (by decide +kernel) rfl rfl
theorem cwX11_nurse : Cond.code yX11_nurse cX11_nurse 3 (some .boolean) ∈ g_wk := g_wk_ofn (k := 3) (j := 38) rfl rfl
theorem mkX11_nurse : g_mck (1, 2, 3, 38, 1, 1, 3, 36, 3, 37) (g_cn 11, yX11_nurse, cX11_nurse, 3, (some .boolean), g_look2 ttX11_nurse) = true := g_mk1 klq11 (by decide +kernel) rfl rfl
theorem cwX11_needs : Cond.code yX11_needs cX11_needs 3 (some .boolean) ∈ g_wk := g_wk_ofn (k := 3) (j := 42) rfl rfl
theorem mkX11_needs : g_mck (1, 2, 3, 42, 1, 1, 3, 40, 3, 41) (g_cn 11, yX11_needs, cX11_needs, 3, (some .boolean), g_look2 ttX11_needs) = true := g_mk1 klq11 (by decide +kernel) rfl rfl
theorem cwX11_wind : Cond.code yX11_wind cX11_wind 4 (some .boolean) ∈ g_wk := g_wk_ofn (k := 3) (j := 46) rfl rfl
theorem mkX11_wind : g_mck (1, 3, 3, 46, 1, 1, 3, 44, 3, 45) (g_cn 11, yX11_wind, cX11_wind, 4, (some .boolean), g_look2 ttX11_wind) = true := g_mk1 klq11 (by decide +kernel) rfl rfl
theorem cwX11_home : Cond.code yX11_home cX11_home 3 (some .boolean) ∈ g_wk := g_wk_ofn (k := 3) (j := 50) rfl rfl
theorem mkX11_home : g_mck (1, 2, 3, 50, 1, 1, 3, 48, 3, 49) (g_cn 11, yX11_home, cX11_home, 3, (some .boolean), g_look2 ttX11_home) = true := g_mk1 klq11 (by decide +kernel) rfl rfl
theorem cwX11_house : Cond.code yX11_house cX11_house 4 (some .boolean) ∈ g_wk := g_wk_ofn (k := 3) (j := 54) rfl rfl
theorem mkX11_house : g_mck (1, 3, 3, 54, 1, 1, 3, 52, 3, 53) (g_cn 11, yX11_house, cX11_house, 4, (some .boolean), g_look2 ttX11_house) = true := g_mk1 klq11 (by decide +kernel) rfl rfl
theorem cwX11_seed : Cond.code yX11_seed cX11_seed 2 (some .boolean) ∈ g_wk := g_wk_ofn (k := 3) (j := 58) rfl rfl
theorem mkX11_seed : g_mck (1, 1, 3, 58, 1, 1, 3, 56, 3, 57) (g_cn 11, yX11_seed, cX11_seed, 2, (some .boolean), g_look2 ttX11_seed) = true := g_mk1 klq11 (by decide +kernel) rfl rfl
theorem cwX11_feed : Cond.code yX11_feed cX11_feed 6 (some .int) ∈ g_wk := g_wk_ofn (k := 3) (j := 63) rfl rfl
theorem mkX11_feed : g_mck (1, 5, 3, 63, 1, 1, 3, 61, 3, 62) (g_cn 11, yX11_feed, cX11_feed, 6, (some .int), g_look2 ttX11_feed) = true := g_mk1 klq11 (by decide +kernel) rfl rfl
theorem cwX11_law : Cond.code yX11_law cX11_law 3 (some .int) ∈ g_wk := g_wk_ofn (k := 3) (j := 75) rfl rfl
theorem mkX11_law : g_mck (1, 1, 3, 75, 1, 1, 3, 73, 3, 74) (g_cn 11, yX11_law, cX11_law, 3, (some .int), g_look2 ttX11_law) = true := g_mk1 klq11 (by decide +kernel) rfl rfl
theorem cwX11_rules : Cond.code yX11_rules cX11_rules 3 (some .int) ∈ g_wk := g_wk_ofn (k := 4) (j := 31) rfl rfl
theorem mkX11_rules : g_mck (1, 1, 4, 31, 1, 1, 4, 29, 4, 30) (g_cn 11, yX11_rules, cX11_rules, 3, (some .int), g_look2 ttX11_rules) = true := g_mk1 klq11 (by decide +kernel) rfl rfl
theorem cwX11_timetable : Cond.code yX11_timetable cX11_timetable 5 (some .int) ∈ g_wk := g_wk_ofn (k := 4) (j := 39) rfl rfl
theorem mkX11_timetable : g_mck (1, 2, 4, 39, 1, 1, 4, 37, 4, 38) (g_cn 11, yX11_timetable, cX11_timetable, 5, (some .int), g_look2 ttX11_timetable) = true := g_mk1 klq11 (by decide +kernel) rfl rfl
theorem cwX11_months : Cond.code yX11_months cX11_months 2 (some .int) ∈ g_wk := g_wk_ofn (k := 4) (j := 76) rfl rfl
theorem mkX11_months : g_mck (1, 1, 4, 76, 1, 1, 4, 74, 4, 75) (g_cn 11, yX11_months, cX11_months, 2, (some .int), g_look2 ttX11_months) = true := g_mk1 klq11 (by decide +kernel) rfl rfl
theorem cwX11_tried : Cond.code yX11_tried cX11_tried 3 (some .int) ∈ g_wk := g_wk_ofn (k := 4) (j := 208) rfl rfl
theorem mkX11_tried : g_mck (1, 2, 4, 208, 1, 1, 4, 206, 4, 207) (g_cn 11, yX11_tried, cX11_tried, 3, (some .int), g_look2 ttX11_tried) = true := g_mk1 klq11 (by decide +kernel) rfl rfl
theorem cwX11_gustIs : Cond.code yX11_gustIs cX11_gustIs 3 (some .int) ∈ g_wk := g_wk_ofn (k := 4) (j := 217) rfl rfl
theorem mkX11_gustIs : g_mck (1, 2, 4, 217, 1, 1, 4, 215, 4, 216) (g_cn 11, yX11_gustIs, cX11_gustIs, 3, (some .int), g_look2 ttX11_gustIs) = true := g_mk1 klq11 (by decide +kernel) rfl rfl
theorem cwX11_wardIs : Cond.code yX11_wardIs cX11_wardIs 4 (some .int) ∈ g_wk := g_wk_ofn (k := 4) (j := 221) rfl rfl
theorem mkX11_wardIs : g_mck (1, 2, 4, 221, 1, 1, 4, 219, 4, 220) (g_cn 11, yX11_wardIs, cX11_wardIs, 4, (some .int), g_look2 ttX11_wardIs) = true := g_mk1 klq11 (by decide +kernel) rfl rfl
theorem cwX11_nurseIs : Cond.code yX11_nurseIs cX11_nurseIs 3 (some .int) ∈ g_wk := g_wk_ofn (k := 4) (j := 227) rfl rfl
theorem mkX11_nurseIs : g_mck (1, 2, 4, 227, 1, 1, 4, 225, 4, 226) (g_cn 11, yX11_nurseIs, cX11_nurseIs, 3, (some .int), g_look2 ttX11_nurseIs) = true := g_mk1 klq11 (by decide +kernel) rfl rfl
theorem cwX11_quarrel : Cond.code yX11_quarrel cX11_quarrel 3 (some .int) ∈ g_wk := g_wk_ofn (k := 4) (j := 232) rfl rfl
theorem mkX11_quarrel : g_mck (1, 2, 4, 232, 1, 1, 4, 230, 4, 231) (g_cn 11, yX11_quarrel, cX11_quarrel, 3, (some .int), g_look2 ttX11_quarrel) = true := g_mk1 klq11 (by decide +kernel) rfl rfl
theorem cwX11_count : Cond.code yX11_count cX11_count 2 (some .int) ∈ g_wk := g_wk_ofn (k := 4) (j := 237) rfl rfl
theorem mkX11_count : g_mck (1, 1, 4, 237, 1, 1, 4, 235, 4, 236) (g_cn 11, yX11_count, cX11_count, 2, (some .int), g_look2 ttX11_count) = true := g_mk1 klq11 (by decide +kernel) rfl rfl
theorem cwX11_added : Cond.code yX11_added cX11_added 6 (some .int) ∈ g_wk := g_wk_ofn (k := 5) (j := 9) rfl rfl
theorem mkX11_added : g_mck (1, 2, 5, 9, 1, 1, 5, 7, 5, 8) (g_cn 11, yX11_added, cX11_added, 6, (some .int), g_look2 ttX11_added) = true := g_mk1 klq11 (by decide +kernel) rfl rfl
theorem cwX11_housed : Cond.code yX11_housed cX11_housed 6 (some .int) ∈ g_wk := g_wk_ofn (k := 5) (j := 16) rfl rfl
theorem mkX11_housed : g_mck (1, 3, 5, 16, 1, 1, 5, 14, 5, 15) (g_cn 11, yX11_housed, cX11_housed, 6, (some .int), g_look2 ttX11_housed) = true := g_mk1 klq11 (by decide +kernel) rfl rfl
theorem cwX11_leaving : Cond.code yX11_leaving cX11_leaving 3 (some .int) ∈ g_wk := g_wk_ofn (k := 5) (j := 56) rfl rfl
theorem mkX11_leaving : g_mck (1, 2, 5, 56, 1, 1, 5, 54, 5, 55) (g_cn 11, yX11_leaving, cX11_leaving, 3, (some .int), g_look2 ttX11_leaving) = true := g_mk1 klq11 (by decide +kernel) rfl rfl
theorem cwX11_letGo : Cond.code yX11_letGo cX11_letGo 4 (some .int) ∈ g_wk := g_wk_ofn (k := 5) (j := 89) rfl rfl
theorem mkX11_letGo : g_mck (1, 1, 5, 89, 1, 1, 5, 87, 5, 88) (g_cn 11, yX11_letGo, cX11_letGo, 4, (some .int), g_look2 ttX11_letGo) = true := g_mk1 klq11 (by decide +kernel) rfl rfl
theorem cwX11_from : Cond.code yX11_from cX11_from 5 (some .int) ∈ g_wk := g_wk_ofn (k := 5) (j := 93) rfl rfl
theorem mkX11_from : g_mck (1, 3, 5, 93, 1, 1, 5, 91, 5, 92) (g_cn 11, yX11_from, cX11_from, 5, (some .int), g_look2 ttX11_from) = true := g_mk1 klq11 (by decide +kernel) rfl rfl
theorem cwX11_taught : Cond.code yX11_taught cX11_taught 5 (some .int) ∈ g_wk := g_wk_ofn (k := 5) (j := 110) rfl rfl
theorem mkX11_taught : g_mck (1, 3, 5, 110, 1, 1, 5, 108, 5, 109) (g_cn 11, yX11_taught, cX11_taught, 5, (some .int), g_look2 ttX11_taught) = true := g_mk1 klq11 (by decide +kernel) rfl rfl
theorem cwX11_placed : Cond.code yX11_placed cX11_placed 3 (some .int) ∈ g_wk := g_wk_ofn (k := 5) (j := 128) rfl rfl
theorem mkX11_placed : g_mck (1, 2, 5, 128, 1, 1, 5, 126, 5, 127) (g_cn 11, yX11_placed, cX11_placed, 3, (some .int), g_look2 ttX11_placed) = true := g_mk1 klq11 (by decide +kernel) rfl rfl
theorem cwX11_fair : Cond.code yX11_fair cX11_fair 3 (some .int) ∈ g_wk := g_wk_ofn (k := 5) (j := 155) rfl rfl
theorem mkX11_fair : g_mck (1, 1, 5, 155, 1, 1, 5, 153, 5, 154) (g_cn 11, yX11_fair, cX11_fair, 3, (some .int), g_look2 ttX11_fair) = true := g_mk1 klq11 (by decide +kernel) rfl rfl
theorem cwX11_escaped : Cond.code yX11_escaped cX11_escaped 7 (some .int) ∈ g_wk := g_wk_ofn (k := 5) (j := 169) rfl rfl
theorem mkX11_escaped : g_mck (1, 4, 5, 169, 1, 1, 5, 167, 5, 168) (g_cn 11, yX11_escaped, cX11_escaped, 7, (some .int), g_look2 ttX11_escaped) = true := g_mk1 klq11 (by decide +kernel) rfl rfl
theorem cwX11_nursed : Cond.code yX11_nursed cX11_nursed 5 (some .int) ∈ g_wk := g_wk_ofn (k := 5) (j := 190) rfl rfl
theorem mkX11_nursed : g_mck (1, 3, 5, 190, 1, 1, 5, 188, 5, 189) (g_cn 11, yX11_nursed, cX11_nursed, 5, (some .int), g_look2 ttX11_nursed) = true := g_mk1 klq11 (by decide +kernel) rfl rfl
theorem cwX11_round : Cond.code yX11_round cX11_round 4 (some .int) ∈ g_wk := g_wk_ofn (k := 5) (j := 203) rfl rfl
theorem mkX11_round : g_mck (1, 2, 5, 203, 1, 1, 5, 201, 5, 202) (g_cn 11, yX11_round, cX11_round, 4, (some .int), g_look2 ttX11_round) = true := g_mk1 klq11 (by decide +kernel) rfl rfl
theorem cwX11_keep : Cond.code yX11_keep cX11_keep 1 (some .int) ∈ g_wk := g_wk_ofn (k := 5) (j := 227) rfl rfl
theorem mkX11_keep : g_mck (1, 0, 5, 227, 1, 1, 5, 225, 5, 226) (g_cn 11, yX11_keep, cX11_keep, 1, (some .int), g_look2 ttX11_keep) = true := g_mk1 klq11 (by decide +kernel) rfl rfl
theorem cwX11_undo : Cond.code yX11_undo cX11_undo 3 (some .boolean) ∈ g_wk := g_wk_ofn (k := 5) (j := 231) rfl rfl
theorem mkX11_undo : g_mck (1, 0, 5, 231, 1, 1, 5, 229, 5, 230) (g_cn 11, yX11_undo, cX11_undo, 3, (some .boolean), g_look2 ttX11_undo) = true := g_mk1 klq11 (by decide +kernel) rfl rfl
theorem cwX11_check : Cond.code yX11_check cX11_check 5 (some .int) ∈ g_wk := g_wk_ofn (k := 5) (j := 235) rfl rfl
theorem mkX11_check : g_mck (1, 1, 5, 235, 1, 1, 5, 233, 5, 234) (g_cn 11, yX11_check, cX11_check, 5, (some .int), g_look2 ttX11_check) = true := g_mk1 klq11 (by decide +kernel) rfl rfl
theorem cwX11_within : Cond.code yX11_within cX11_within 2 (some .boolean) ∈ g_wk := g_wk_ofn (k := 2) (j := 239) rfl rfl
theorem mkX11_within : g_mck (0, 2, 2, 239, 1, 1, 2, 238, 0, 0) (g_cn 11, yX11_within, cX11_within, 2, (some .boolean), g_look2 ttX11_within) = true := g_mk0 klq11 (by decide +kernel) rfl
theorem cwX11_isIn : Cond.code yX11_isIn cX11_isIn 2 (some .boolean) ∈ g_wk := g_wk_ofn (k := 4) (j := 147) rfl rfl
theorem mkX11_isIn : g_mck (0, 2, 4, 147, 1, 1, 4, 146, 0, 0) (g_cn 11, yX11_isIn, cX11_isIn, 2, (some .boolean), g_look2 ttX11_isIn) = true := g_mk0 klq11 (by decide +kernel) rfl
theorem cwX11_placeIn : Cond.code yX11_placeIn cX11_placeIn 2 (some .int) ∈ g_wk := g_wk_ofn (k := 5) (j := 52) rfl rfl
theorem mkX11_placeIn : g_mck (0, 2, 5, 52, 1, 1, 5, 51, 0, 0) (g_cn 11, yX11_placeIn, cX11_placeIn, 2, (some .int), g_look2 ttX11_placeIn) = true := g_mk0 klq11 (by decide +kernel) rfl
theorem cwX11_chosen : Cond.code yX11_chosen cX11_chosen 5 (some .boolean) ∈ g_wk := g_wk_ofn (k := 5) (j := 20) rfl rfl
theorem mkX11_chosen : g_mck (1, 3, 5, 20, 1, 1, 5, 19, 0, 36) (g_cn 11, yX11_chosen, cX11_chosen, 5, (some .boolean), g_look2 ttX11_chosen) = true := g_mk1 klq11 (by decide +kernel) rfl rfl
theorem cwX11_wardAt : Cond.code yX11_wardAt cX11_wardAt 2 (some (.object "GustHome$Ward")) ∈ g_wk := g_wk_ofn (k := 3) (j := 15) rfl rfl
theorem mkX11_wardAt : g_mck (1, 1, 3, 15, 1, 1, 3, 14, 0, 0) (g_cn 11, yX11_wardAt, cX11_wardAt, 2, (some (.object "GustHome$Ward")), g_look2 ttX11_wardAt) = true := g_mk1 klq11 (by decide +kernel) rfl rfl
theorem cwX11_northward : Cond.code yX11_northward cX11_northward 2 (some .int) ∈ g_wk := g_wk_ofn (k := 5) (j := 12) rfl rfl
theorem mkX11_northward : g_mck (0, 2, 5, 12, 1, 1, 5, 11, 0, 0) (g_cn 11, yX11_northward, cX11_northward, 2, (some .int), g_look2 ttX11_northward) = true := g_mk0 klq11 (by decide +kernel) rfl
theorem cwX11_homesLike : Cond.code yX11_homesLike cX11_homesLike 5 (some .int) ∈ g_wk := g_wk_ofn (k := 5) (j := 97) rfl rfl
theorem mkX11_homesLike : g_mck (1, 2, 5, 97, 1, 1, 5, 96, 0, 44) (g_cn 11, yX11_homesLike, cX11_homesLike, 5, (some .int), g_look2 ttX11_homesLike) = true := g_mk1 klq11 (by decide +kernel) rfl rfl
theorem cwX11_mostTelling : Cond.code yX11_mostTelling cX11_mostTelling 9 (some .int) ∈ g_wk := g_wk_ofn (k := 5) (j := 101) rfl rfl
theorem mkX11_mostTelling : g_mck (1, 2, 5, 101, 1, 1, 5, 100, 0, 45) (g_cn 11, yX11_mostTelling, cX11_mostTelling, 9, (some .int), g_look2 ttX11_mostTelling) = true := g_mk1 klq11 (by decide +kernel) rfl rfl
theorem cwX11_homesWith : Cond.code yX11_homesWith cX11_homesWith 5 (some .int) ∈ g_wk := g_wk_ofn (k := 5) (j := 105) rfl rfl
theorem mkX11_homesWith : g_mck (1, 2, 5, 105, 1, 1, 5, 104, 0, 46) (g_cn 11, yX11_homesWith, cX11_homesWith, 5, (some .int), g_look2 ttX11_homesWith) = true := g_mk1 klq11 (by decide +kernel) rfl rfl
theorem cwX11_sought : Cond.code yX11_sought cX11_sought 9 (some .int) ∈ g_wk := g_wk_ofn (k := 5) (j := 173) rfl rfl
theorem mkX11_sought : g_mck (1, 4, 5, 173, 1, 1, 5, 172, 0, 53) (g_cn 11, yX11_sought, cX11_sought, 9, (some .int), g_look2 ttX11_sought) = true := g_mk1 klq11 (by decide +kernel) rfl rfl
theorem cwX11_sightingsStand : Cond.code yX11_sightingsStand cX11_sightingsStand 7 (some .boolean) ∈ g_wk := g_wk_ofn (k := 5) (j := 177) rfl rfl
theorem mkX11_sightingsStand : g_mck (1, 1, 5, 177, 1, 1, 5, 176, 0, 54) (g_cn 11, yX11_sightingsStand, cX11_sightingsStand, 7, (some .boolean), g_look2 ttX11_sightingsStand) = true := g_mk1 klq11 (by decide +kernel) rfl rfl
theorem cwX11_sightingsAgree : Cond.code yX11_sightingsAgree cX11_sightingsAgree 6 (some .boolean) ∈ g_wk := g_wk_ofn (k := 5) (j := 182) rfl rfl
theorem mkX11_sightingsAgree : g_mck (1, 2, 5, 182, 1, 1, 5, 181, 0, 55) (g_cn 11, yX11_sightingsAgree, cX11_sightingsAgree, 6, (some .boolean), g_look2 ttX11_sightingsAgree) = true := g_mk1 klq11 (by decide +kernel) rfl rfl
theorem cwX12_init : Cond.code yX12_init cX12_init 2 none ∈ g_wk := g_wk_ofn (k := 6) (j := 0) rfl rfl
theorem klq12 : g_kc RX12 (g_cn 12) 1 13 = true := by decide +kernel
theorem mkX12_init : g_mck (2, 0, 6, 0, 1, 13, 5, 239, 0, 0) (g_cn 12, yX12_init, cX12_init, 2, none, g_look2 ttX12_init) = true := g_mk2 klq12 (by decide +kernel) rfl rfl rfl
theorem cwX12_lies : Cond.code yX12_lies cX12_lies 6 (some .boolean) ∈ g_wk := g_wk_ofn (k := 7) (j := 136) rfl rfl
theorem mkX12_lies : g_mck (0, 3, 7, 136, 1, 13, 7, 135, 0, 0) (g_cn 12, yX12_lies, cX12_lies, 6, (some .boolean), g_look2 ttX12_lies) = true := g_mk0 klq12 (by decide +kernel) rfl
theorem cwX12_has : Cond.code yX12_has cX12_has 2 (some .boolean) ∈ g_wk := g_wk_ofn (k := 8) (j := 58) rfl rfl
theorem mkX12_has : g_mck (0, 2, 8, 58, 1, 13, 8, 57, 0, 0) (g_cn 12, yX12_has, cX12_has, 2, (some .boolean), g_look2 ttX12_has) = true := g_mk0 klq12 (by decide +kernel) rfl
theorem cwX12_sizeOf : Cond.code yX12_sizeOf cX12_sizeOf 3 (some .int) ∈ g_wk := g_wk_ofn (k := 8) (j := 101) rfl rfl
theorem mkX12_sizeOf : g_mck (0, 1, 8, 101, 1, 13, 8, 100, 0, 0) (g_cn 12, yX12_sizeOf, cX12_sizeOf, 3, (some .int), g_look2 ttX12_sizeOf) = true := g_mk0 klq12 (by decide +kernel) rfl
theorem cwX12_held : Cond.code yX12_held cX12_held 2 (some .int) ∈ g_wk := g_wk_ofn (k := 8) (j := 127) rfl rfl
theorem mkX12_held : g_mck (0, 2, 8, 127, 1, 13, 8, 126, 0, 0) (g_cn 12, yX12_held, cX12_held, 2, (some .int), g_look2 ttX12_held) = true := g_mk0 klq12 (by decide +kernel) rfl
theorem cwX12_push : Cond.code yX12_push cX12_push 3 none ∈ g_wk := g_wk_ofn (k := 7) (j := 128) rfl rfl
theorem mkX12_push : g_mck (1, 1, 7, 128, 1, 13, 7, 127, 0, 60) (g_cn 12, yX12_push, cX12_push, 3, none, g_look2 ttX12_push) = true := g_mk1 klq12 (by decide +kernel) rfl rfl
theorem cwX12_feed : Cond.code yX12_feed cX12_feed 6 (some .int) ∈ g_wk := g_wk_ofn (k := 7) (j := 124) rfl rfl
theorem mkX12_feed : g_mck (1, 5, 7, 124, 1, 13, 7, 122, 7, 123) (g_cn 12, yX12_feed, cX12_feed, 6, (some .int), g_look2 ttX12_feed) = true := g_mk1 klq12 (by decide +kernel) rfl rfl
theorem cwX12_byteAt : Cond.code yX12_byteAt cX12_byteAt 2 (some .int) ∈ g_wk := g_wk_ofn (k := 9) (j := 126) rfl rfl
theorem mkX12_byteAt : g_mck (1, 1, 9, 126, 1, 13, 9, 125, 0, 137) (g_cn 12, yX12_byteAt, cX12_byteAt, 2, (some .int), g_look2 ttX12_byteAt) = true := g_mk1 klq12 (by decide +kernel) rfl rfl
theorem cwX12_here : Cond.code yX12_here cX12_here 1 (some .int) ∈ g_wk := g_wk_ofn (k := 7) (j := 156) rfl rfl
theorem mkX12_here : g_mck (1, 0, 7, 156, 1, 13, 7, 155, 0, 65) (g_cn 12, yX12_here, cX12_here, 1, (some .int), g_look2 ttX12_here) = true := g_mk1 klq12 (by decide +kernel) rfl rfl
theorem cwX12_wrongs : Cond.code yX12_wrongs cX12_wrongs 3 none ∈ g_wk := g_wk_ofn (k := 7) (j := 163) rfl rfl
theorem mkX12_wrongs : g_mck (1, 2, 7, 163, 1, 13, 7, 162, 0, 66) (g_cn 12, yX12_wrongs, cX12_wrongs, 3, none, g_look2 ttX12_wrongs) = true := g_mk1 klq12 (by decide +kernel) rfl rfl
theorem cwX12_isGood : Cond.code yX12_isGood cX12_isGood 1 (some .boolean) ∈ g_wk := g_wk_ofn (k := 7) (j := 148) rfl rfl
theorem mkX12_isGood : g_mck (1, 0, 7, 148, 1, 13, 7, 147, 0, 63) (g_cn 12, yX12_isGood, cX12_isGood, 1, (some .boolean), g_look2 ttX12_isGood) = true := g_mk1 klq12 (by decide +kernel) rfl rfl
theorem cwX12_seesDigit : Cond.code yX12_seesDigit cX12_seesDigit 1 (some .boolean) ∈ g_wk := g_wk_ofn (k := 7) (j := 183) rfl rfl
theorem mkX12_seesDigit : g_mck (1, 0, 7, 183, 1, 13, 7, 182, 0, 71) (g_cn 12, yX12_seesDigit, cX12_seesDigit, 1, (some .boolean), g_look2 ttX12_seesDigit) = true := g_mk1 klq12 (by decide +kernel) rfl rfl
theorem cwX12_begins : Cond.code yX12_begins cX12_begins 2 none ∈ g_wk := g_wk_ofn (k := 7) (j := 144) rfl rfl
theorem mkX12_begins : g_mck (1, 1, 7, 144, 1, 13, 7, 143, 0, 62) (g_cn 12, yX12_begins, cX12_begins, 2, none, g_look2 ttX12_begins) = true := g_mk1 klq12 (by decide +kernel) rfl rfl
theorem cwX12_emit : Cond.code yX12_emit cX12_emit 3 none ∈ g_wk := g_wk_ofn (k := 7) (j := 193) rfl rfl
theorem mkX12_emit : g_mck (1, 2, 7, 193, 1, 13, 7, 192, 0, 73) (g_cn 12, yX12_emit, cX12_emit, 3, none, g_look2 ttX12_emit) = true := g_mk1 klq12 (by decide +kernel) rfl rfl
theorem cwX12_top : Cond.code yX12_top cX12_top 1 (some .int) ∈ g_wk := g_wk_ofn (k := 7) (j := 214) rfl rfl
theorem mkX12_top : g_mck (1, 0, 7, 214, 1, 13, 7, 213, 0, 76) (g_cn 12, yX12_top, cX12_top, 1, (some .int), g_look2 ttX12_top) = true := g_mk1 klq12 (by decide +kernel) rfl rfl
theorem cwX12_puts : Cond.code yX12_puts cX12_puts 2 none ∈ g_wk := g_wk_ofn (k := 7) (j := 179) rfl rfl
theorem mkX12_puts : g_mck (1, 1, 7, 179, 1, 13, 7, 178, 0, 70) (g_cn 12, yX12_puts, cX12_puts, 2, none, g_look2 ttX12_puts) = true := g_mk1 klq12 (by decide +kernel) rfl rfl
theorem cwX12_opens : Cond.code yX12_opens cX12_opens 1 none ∈ g_wk := g_wk_ofn (k := 7) (j := 175) rfl rfl
theorem mkX12_opens : g_mck (1, 0, 7, 175, 1, 13, 7, 174, 0, 69) (g_cn 12, yX12_opens, cX12_opens, 1, none, g_look2 ttX12_opens) = true := g_mk1 klq12 (by decide +kernel) rfl rfl
theorem cwX12_reads : Cond.code yX12_reads cX12_reads 3 (some .int) ∈ g_wk := g_wk_ofn (k := 7) (j := 189) rfl rfl
theorem mkX12_reads : g_mck (1, 0, 7, 189, 1, 13, 7, 188, 0, 72) (g_cn 12, yX12_reads, cX12_reads, 3, (some .int), g_look2 ttX12_reads) = true := g_mk1 klq12 (by decide +kernel) rfl rfl
theorem cwX12_isTimes : Cond.code yX12_isTimes cX12_isTimes 1 (some .boolean) ∈ g_wk := g_wk_ofn (k := 7) (j := 203) rfl rfl
theorem mkX12_isTimes : g_mck (0, 1, 7, 203, 1, 13, 7, 202, 0, 0) (g_cn 12, yX12_isTimes, cX12_isTimes, 1, (some .boolean), g_look2 ttX12_isTimes) = true := g_mk0 klq12 (by decide +kernel) rfl
theorem cwX12_isPlus : Cond.code yX12_isPlus cX12_isPlus 1 (some .boolean) ∈ g_wk := g_wk_ofn (k := 7) (j := 206) rfl rfl
theorem mkX12_isPlus : g_mck (0, 1, 7, 206, 1, 13, 7, 205, 0, 0) (g_cn 12, yX12_isPlus, cX12_isPlus, 1, (some .boolean), g_look2 ttX12_isPlus) = true := g_mk0 klq12 (by decide +kernel) rfl
theorem cwX12_isCompared : Cond.code yX12_isCompared cX12_isCompared 1 (some .boolean) ∈ g_wk := g_wk_ofn (k := 7) (j := 225) rfl rfl
theorem mkX12_isCompared : g_mck (0, 1, 7, 225, 1, 13, 7, 224, 0, 0) (g_cn 12, yX12_isCompared, cX12_isCompared, 1, (some .boolean), g_look2 ttX12_isCompared) = true := g_mk0 klq12 (by decide +kernel) rfl
theorem cwX12_isValue : Cond.code yX12_isValue cX12_isValue 1 (some .boolean) ∈ g_wk := g_wk_ofn (k := 7) (j := 196) rfl rfl
theorem mkX12_isValue : g_mck (0, 1, 7, 196, 1, 13, 7, 195, 0, 0) (g_cn 12, yX12_isValue, cX12_isValue, 1, (some .boolean), g_look2 ttX12_isValue) = true := g_mk0 klq12 (by decide +kernel) rfl
theorem cwX12_sums : Cond.code yX12_sums cX12_sums 2 none ∈ g_wk := g_wk_ofn (k := 7) (j := 210) rfl rfl
theorem mkX12_sums : g_mck (1, 1, 7, 210, 1, 13, 7, 209, 0, 75) (g_cn 12, yX12_sums, cX12_sums, 2, none, g_look2 ttX12_sums) = true := g_mk1 klq12 (by decide +kernel) rfl rfl
theorem cwX12_joins : Cond.code yX12_joins cX12_joins 2 none ∈ g_wk := g_wk_ofn (k := 7) (j := 237) rfl rfl
theorem mkX12_joins : g_mck (1, 1, 7, 237, 1, 13, 7, 236, 0, 81) (g_cn 12, yX12_joins, cX12_joins, 2, none, g_look2 ttX12_joins) = true := g_mk1 klq12 (by decide +kernel) rfl rfl
theorem cwX12_ends : Cond.code yX12_ends cX12_ends 1 none ∈ g_wk := g_wk_ofn (k := 7) (j := 229) rfl rfl
theorem mkX12_ends : g_mck (1, 0, 7, 229, 1, 13, 7, 228, 0, 79) (g_cn 12, yX12_ends, cX12_ends, 1, none, g_look2 ttX12_ends) = true := g_mk1 klq12 (by decide +kernel) rfl rfl
theorem cwX12_factor : Cond.code yX12_factor cX12_factor 1 none ∈ g_wk := g_wk_ofn (k := 7) (j := 171) rfl rfl
theorem mkX12_factor : g_mck (1, 0, 7, 171, 1, 13, 7, 170, 0, 68) (g_cn 12, yX12_factor, cX12_factor, 1, none, g_look2 ttX12_factor) = true := g_mk1 klq12 (by decide +kernel) rfl rfl
theorem cwX12_stays : Cond.code yX12_stays cX12_stays 2 (some .boolean) ∈ g_wk := g_wk_ofn (k := 7) (j := 200) rfl rfl
theorem mkX12_stays : g_mck (1, 0, 7, 200, 1, 13, 7, 199, 0, 74) (g_cn 12, yX12_stays, cX12_stays, 2, (some .boolean), g_look2 ttX12_stays) = true := g_mk1 klq12 (by decide +kernel) rfl rfl
theorem cwX12_value : Cond.code yX12_value cX12_value 2 none ∈ g_wk := g_wk_ofn (k := 7) (j := 167) rfl rfl
theorem mkX12_value : g_mck (1, 0, 7, 167, 1, 13, 7, 166, 0, 67) (g_cn 12, yX12_value, cX12_value, 2, none, g_look2 ttX12_value) = true := g_mk1 klq12 (by decide +kernel) rfl rfl
theorem cwX12_pieceOfC : Cond.code yX12_pieceOfC cX12_pieceOfC 2 none ∈ g_wk := g_wk_ofn (k := 7) (j := 222) rfl rfl
theorem mkX12_pieceOfC : g_mck (1, 0, 7, 222, 1, 13, 7, 221, 0, 78) (g_cn 12, yX12_pieceOfC, cX12_pieceOfC, 2, none, g_look2 ttX12_pieceOfC) = true := g_mk1 klq12 (by decide +kernel) rfl rfl
theorem cwX12_goesBehind : Cond.code yX12_goesBehind cX12_goesBehind 2 (some .boolean) ∈ g_wk := g_wk_ofn (k := 7) (j := 233) rfl rfl
theorem mkX12_goesBehind : g_mck (1, 0, 7, 233, 1, 13, 7, 232, 0, 80) (g_cn 12, yX12_goesBehind, cX12_goesBehind, 2, (some .boolean), g_look2 ttX12_goesBehind) = true := g_mk1 klq12 (by decide +kernel) rfl rfl
theorem cwX12_condition : Cond.code yX12_condition cX12_condition 2 none ∈ g_wk := g_wk_ofn (k := 7) (j := 218) rfl rfl
theorem mkX12_condition : g_mck (1, 0, 7, 218, 1, 13, 7, 217, 0, 77) (g_cn 12, yX12_condition, cX12_condition, 2, none, g_look2 ttX12_condition) = true := g_mk1 klq12 (by decide +kernel) rfl rfl
theorem cwX12_isClause : Cond.code yX12_isClause cX12_isClause 1 (some .boolean) ∈ g_wk := g_wk_ofn (k := 7) (j := 159) rfl rfl
theorem mkX12_isClause : g_mck (0, 1, 7, 159, 1, 13, 7, 158, 0, 0) (g_cn 12, yX12_isClause, cX12_isClause, 1, (some .boolean), g_look2 ttX12_isClause) = true := g_mk0 klq12 (by decide +kernel) rfl
theorem cwX12_clause : Cond.code yX12_clause cX12_clause 3 none ∈ g_wk := g_wk_ofn (k := 7) (j := 152) rfl rfl
theorem mkX12_clause : g_mck (1, 1, 7, 152, 1, 13, 7, 151, 0, 64) (g_cn 12, yX12_clause, cX12_clause, 3, none, g_look2 ttX12_clause) = true := g_mk1 klq12 (by decide +kernel) rfl rfl
theorem cwX12_takesText : Cond.code yX12_takesText cX12_takesText 7 (some .int) ∈ g_wk := g_wk_ofn (k := 7) (j := 140) rfl rfl
theorem mkX12_takesText : g_mck (1, 2, 7, 140, 1, 13, 7, 139, 0, 61) (g_cn 12, yX12_takesText, cX12_takesText, 7, (some .int), g_look2 ttX12_takesText) = true := g_mk1 klq12 (by decide +kernel) rfl rfl
theorem cwX12_law : Cond.code yX12_law cX12_law 3 (some .int) ∈ g_wk := g_wk_ofn (k := 7) (j := 132) rfl rfl
theorem mkX12_law : g_mck (1, 1, 7, 132, 1, 13, 7, 130, 7, 131) (g_cn 12, yX12_law, cX12_law, 3, (some .int), g_look2 ttX12_law) = true := g_mk1 klq12 (by decide +kernel) rfl rfl
theorem cwX12_rules : Cond.code yX12_rules cX12_rules 3 (some .int) ∈ g_wk := g_wk_ofn (k := 8) (j := 1) rfl rfl
theorem mkX12_rules : g_mck (1, 1, 8, 1, 1, 13, 7, 239, 8, 0) (g_cn 12, yX12_rules, cX12_rules, 3, (some .int), g_look2 ttX12_rules) = true := g_mk1 klq12 (by decide +kernel) rfl rfl
theorem cwX12_valueOf : Cond.code yX12_valueOf cX12_valueOf 2 (some .int) ∈ g_wk := g_wk_ofn (k := 8) (j := 124) rfl rfl
theorem mkX12_valueOf : g_mck (1, 1, 8, 124, 1, 13, 8, 123, 0, 96) (g_cn 12, yX12_valueOf, cX12_valueOf, 2, (some .int), g_look2 ttX12_valueOf) = true := g_mk1 klq12 (by decide +kernel) rfl rfl
theorem cwX12_worked : Cond.code yX12_worked cX12_worked 3 (some .int) ∈ g_wk := g_wk_ofn (k := 8) (j := 120) rfl rfl
theorem mkX12_worked : g_mck (0, 3, 8, 120, 1, 13, 8, 119, 0, 0) (g_cn 12, yX12_worked, cX12_worked, 3, (some .int), g_look2 ttX12_worked) = true := g_mk0 klq12 (by decide +kernel) rfl
theorem cwX12_does : Cond.code yX12_does cX12_does 4 none ∈ g_wk := g_wk_ofn (k := 8) (j := 117) rfl rfl
theorem mkX12_does : g_mck (1, 2, 8, 117, 1, 13, 8, 116, 0, 95) (g_cn 12, yX12_does, cX12_does, 4, none, g_look2 ttX12_does) = true := g_mk1 klq12 (by decide +kernel) rfl rfl
theorem cwX12_works : Cond.code yX12_works cX12_works 5 none ∈ g_wk := g_wk_ofn (k := 8) (j := 113) rfl rfl
theorem mkX12_works : g_mck (1, 2, 8, 113, 1, 13, 8, 112, 0, 94) (g_cn 12, yX12_works, cX12_works, 5, none, g_look2 ttX12_works) = true := g_mk1 klq12 (by decide +kernel) rfl rfl
theorem cwX12_isSo : Cond.code yX12_isSo cX12_isSo 2 (some .boolean) ∈ g_wk := g_wk_ofn (k := 8) (j := 109) rfl rfl
theorem mkX12_isSo : g_mck (1, 1, 8, 109, 1, 13, 8, 108, 0, 93) (g_cn 12, yX12_isSo, cX12_isSo, 2, (some .boolean), g_look2 ttX12_isSo) = true := g_mk1 klq12 (by decide +kernel) rfl rfl
theorem cwX12_tells : Cond.code yX12_tells cX12_tells 4 (some .int) ∈ g_wk := g_wk_ofn (k := 8) (j := 105) rfl rfl
theorem mkX12_tells : g_mck (1, 2, 8, 105, 1, 13, 8, 104, 0, 92) (g_cn 12, yX12_tells, cX12_tells, 4, (some .int), g_look2 ttX12_tells) = true := g_mk1 klq12 (by decide +kernel) rfl rfl
theorem cwX12_says : Cond.code yX12_says cX12_says 3 (some .boolean) ∈ g_wk := g_wk_ofn (k := 8) (j := 155) rfl rfl
theorem mkX12_says : g_mck (1, 1, 8, 155, 1, 13, 8, 154, 0, 103) (g_cn 12, yX12_says, cX12_says, 3, (some .boolean), g_look2 ttX12_says) = true := g_mk1 klq12 (by decide +kernel) rfl rfl
theorem cwX12_nothingStands : Cond.code yX12_nothingStands cX12_nothingStands 1 none ∈ g_wk := g_wk_ofn (k := 8) (j := 98) rfl rfl
theorem mkX12_nothingStands : g_mck (1, 0, 8, 98, 1, 13, 8, 97, 0, 91) (g_cn 12, yX12_nothingStands, cX12_nothingStands, 1, none, g_look2 ttX12_nothingStands) = true := g_mk1 klq12 (by decide +kernel) rfl rfl
theorem cwX12_gustStands : Cond.code yX12_gustStands cX12_gustStands 2 none ∈ g_wk := g_wk_ofn (k := 8) (j := 94) rfl rfl
theorem mkX12_gustStands : g_mck (1, 1, 8, 94, 1, 13, 8, 93, 0, 90) (g_cn 12, yX12_gustStands, cX12_gustStands, 2, none, g_look2 ttX12_gustStands) = true := g_mk1 klq12 (by decide +kernel) rfl rfl
theorem cwX12_falling : Cond.code yX12_falling cX12_falling 3 (some .int) ∈ g_wk := g_wk_ofn (k := 8) (j := 179) rfl rfl
theorem mkX12_falling : g_mck (1, 2, 8, 179, 1, 13, 8, 178, 0, 109) (g_cn 12, yX12_falling, cX12_falling, 3, (some .int), g_look2 ttX12_falling) = true := g_mk1 klq12 (by decide +kernel) rfl rfl
theorem cwX12_isKeptBy : Cond.code yX12_isKeptBy cX12_isKeptBy 3 (some .boolean) ∈ g_wk := g_wk_ofn (k := 8) (j := 192) rfl rfl
theorem mkX12_isKeptBy : g_mck (1, 2, 8, 192, 1, 13, 8, 191, 0, 112) (g_cn 12, yX12_isKeptBy, cX12_isKeptBy, 3, (some .boolean), g_look2 ttX12_isKeptBy) = true := g_mk1 klq12 (by decide +kernel) rfl rfl
theorem cwX12_isAngry : Cond.code yX12_isAngry cX12_isAngry 3 (some .boolean) ∈ g_wk := g_wk_ofn (k := 8) (j := 171) rfl rfl
theorem mkX12_isAngry : g_mck (1, 2, 8, 171, 1, 13, 8, 170, 0, 107) (g_cn 12, yX12_isAngry, cX12_isAngry, 3, (some .boolean), g_look2 ttX12_isAngry) = true := g_mk1 klq12 (by decide +kernel) rfl rfl
theorem cwX12_doQuarrel : Cond.code yX12_doQuarrel cX12_doQuarrel 3 (some .boolean) ∈ g_wk := g_wk_ofn (k := 8) (j := 167) rfl rfl
theorem mkX12_doQuarrel : g_mck (1, 2, 8, 167, 1, 13, 8, 166, 0, 106) (g_cn 12, yX12_doQuarrel, cX12_doQuarrel, 3, (some .boolean), g_look2 ttX12_doQuarrel) = true := g_mk1 klq12 (by decide +kernel) rfl rfl
theorem cwX12_isTold : Cond.code yX12_isTold cX12_isTold 2 (some .boolean) ∈ g_wk := g_wk_ofn (k := 8) (j := 20) rfl rfl
theorem mkX12_isTold : g_mck (1, 1, 8, 20, 1, 13, 8, 19, 0, 82) (g_cn 12, yX12_isTold, cX12_isTold, 2, (some .boolean), g_look2 ttX12_isTold) = true := g_mk1 klq12 (by decide +kernel) rfl rfl
theorem cwX12_isWard : Cond.code yX12_isWard cX12_isWard 1 (some .boolean) ∈ g_wk := g_wk_ofn (k := 8) (j := 11) rfl rfl
theorem mkX12_isWard : g_mck (0, 1, 8, 11, 1, 13, 8, 10, 0, 0) (g_cn 12, yX12_isWard, cX12_isWard, 1, (some .boolean), g_look2 ttX12_isWard) = true := g_mk0 klq12 (by decide +kernel) rfl
theorem cwX12_isThere : Cond.code yX12_isThere cX12_isThere 2 (some .boolean) ∈ g_wk := g_wk_ofn (k := 8) (j := 139) rfl rfl
theorem mkX12_isThere : g_mck (1, 1, 8, 139, 1, 13, 8, 138, 0, 99) (g_cn 12, yX12_isThere, cX12_isThere, 2, (some .boolean), g_look2 ttX12_isThere) = true := g_mk1 klq12 (by decide +kernel) rfl rfl
theorem cwX12_areHabits : Cond.code yX12_areHabits cX12_areHabits 1 (some .boolean) ∈ g_wk := g_wk_ofn (k := 8) (j := 54) rfl rfl
theorem mkX12_areHabits : g_mck (0, 1, 8, 54, 1, 13, 8, 53, 0, 0) (g_cn 12, yX12_areHabits, cX12_areHabits, 1, (some .boolean), g_look2 ttX12_areHabits) = true := g_mk0 klq12 (by decide +kernel) rfl
theorem cwX12_isIn : Cond.code yX12_isIn cX12_isIn 3 (some .boolean) ∈ g_wk := g_wk_ofn (k := 8) (j := 33) rfl rfl
theorem mkX12_isIn : g_mck (1, 2, 8, 33, 1, 13, 8, 32, 0, 84) (g_cn 12, yX12_isIn, cX12_isIn, 3, (some .boolean), g_look2 ttX12_isIn) = true := g_mk1 klq12 (by decide +kernel) rfl rfl
theorem cwX12_manyIn : Cond.code yX12_manyIn cX12_manyIn 4 (some .int) ∈ g_wk := g_wk_ofn (k := 8) (j := 29) rfl rfl
theorem mkX12_manyIn : g_mck (1, 1, 8, 29, 1, 13, 8, 28, 0, 83) (g_cn 12, yX12_manyIn, cX12_manyIn, 4, (some .int), g_look2 ttX12_manyIn) = true := g_mk1 klq12 (by decide +kernel) rfl rfl
theorem cwX12_togetherIn : Cond.code yX12_togetherIn cX12_togetherIn 4 (some .int) ∈ g_wk := g_wk_ofn (k := 8) (j := 196) rfl rfl
theorem mkX12_togetherIn : g_mck (1, 1, 8, 196, 1, 13, 8, 195, 0, 113) (g_cn 12, yX12_togetherIn, cX12_togetherIn, 4, (some .int), g_look2 ttX12_togetherIn) = true := g_mk1 klq12 (by decide +kernel) rfl rfl
theorem cwX12_gust : Cond.code yX12_gust cX12_gust 6 (some .boolean) ∈ g_wk := g_wk_ofn (k := 8) (j := 5) rfl rfl
theorem mkX12_gust : g_mck (1, 5, 8, 5, 1, 13, 8, 3, 8, 4) (g_cn 12, yX12_gust, cX12_gust, 6, (some .boolean), g_look2 ttX12_gust) = true := g_mk1 klq12 (by decide +kernel) rfl rfl
theorem cwX12_name : Cond.code yX12_name cX12_name 3 (some .boolean) ∈ g_wk := g_wk_ofn (k := 8) (j := 16) rfl rfl
theorem mkX12_name : g_mck (1, 2, 8, 16, 1, 13, 8, 14, 8, 15) (g_cn 12, yX12_name, cX12_name, 3, (some .boolean), g_look2 ttX12_name) = true := g_mk1 klq12 (by decide +kernel) rfl rfl
theorem cwX12_moves : Cond.code yX12_moves cX12_moves 3 (some .boolean) ∈ g_wk := g_wk_ofn (k := 8) (j := 25) rfl rfl
theorem mkX12_moves : g_mck (1, 2, 8, 25, 1, 13, 8, 23, 8, 24) (g_cn 12, yX12_moves, cX12_moves, 3, (some .boolean), g_look2 ttX12_moves) = true := g_mk1 klq12 (by decide +kernel) rfl rfl
theorem cwX12_habit : Cond.code yX12_habit cX12_habit 4 (some .boolean) ∈ g_wk := g_wk_ofn (k := 8) (j := 37) rfl rfl
theorem mkX12_habit : g_mck (1, 3, 8, 37, 1, 13, 8, 35, 8, 36) (g_cn 12, yX12_habit, cX12_habit, 4, (some .boolean), g_look2 ttX12_habit) = true := g_mk1 klq12 (by decide +kernel) rfl rfl
theorem cwX12_ward : Cond.code yX12_ward cX12_ward 5 (some .boolean) ∈ g_wk := g_wk_ofn (k := 8) (j := 41) rfl rfl
theorem mkX12_ward : g_mck (1, 4, 8, 41, 1, 13, 8, 39, 8, 40) (g_cn 12, yX12_ward, cX12_ward, 5, (some .boolean), g_look2 ttX12_ward) = true := g_mk1 klq12 (by decide +kernel) rfl rfl
theorem cwX12_nurse : Cond.code yX12_nurse cX12_nurse 3 (some .boolean) ∈ g_wk := g_wk_ofn (k := 8) (j := 47) rfl rfl
theorem mkX12_nurse : g_mck (1, 2, 8, 47, 1, 13, 8, 45, 8, 46) (g_cn 12, yX12_nurse, cX12_nurse, 3, (some .boolean), g_look2 ttX12_nurse) = true := g_mk1 klq12 (by decide +kernel) rfl rfl
theorem cwX12_needs : Cond.code yX12_needs cX12_needs 3 (some .boolean) ∈ g_wk := g_wk_ofn (k := 8) (j := 51) rfl rfl
theorem mkX12_needs : g_mck (1, 2, 8, 51, 1, 13, 8, 49, 8, 50) (g_cn 12, yX12_needs, cX12_needs, 3, (some .boolean), g_look2 ttX12_needs) = true := g_mk1 klq12 (by decide +kernel) rfl rfl
theorem cwX12_repeats : Cond.code yX12_repeats cX12_repeats 6 none ∈ g_wk := g_wk_ofn (k := 8) (j := 71) rfl rfl
theorem mkX12_repeats : g_mck (1, 3, 8, 71, 1, 13, 8, 70, 0, 86) (g_cn 12, yX12_repeats, cX12_repeats, 6, none, g_look2 ttX12_repeats) = true := g_mk1 klq12 (by decide +kernel) rfl rfl
theorem cwX12_timesTold : Cond.code yX12_timesTold cX12_timesTold 1 (some .int) ∈ g_wk := g_wk_ofn (k := 8) (j := 75) rfl rfl
theorem mkX12_timesTold : g_mck (1, 0, 8, 75, 1, 13, 8, 74, 0, 87) (g_cn 12, yX12_timesTold, cX12_timesTold, 1, (some .int), g_look2 ttX12_timesTold) = true := g_mk1 klq12 (by decide +kernel) rfl rfl
theorem cwX12_monthTold : Cond.code yX12_monthTold cX12_monthTold 4 none ∈ g_wk := g_wk_ofn (k := 8) (j := 67) rfl rfl
theorem mkX12_monthTold : g_mck (1, 0, 8, 67, 1, 13, 8, 66, 0, 85) (g_cn 12, yX12_monthTold, cX12_monthTold, 4, none, g_look2 ttX12_monthTold) = true := g_mk1 klq12 (by decide +kernel) rfl rfl
theorem cwX12_timetable : Cond.code yX12_timetable cX12_timetable 4 (some .int) ∈ g_wk := g_wk_ofn (k := 8) (j := 62) rfl rfl
theorem mkX12_timetable : g_mck (1, 2, 8, 62, 1, 13, 8, 60, 8, 61) (g_cn 12, yX12_timetable, cX12_timetable, 4, (some .int), g_look2 ttX12_timetable) = true := g_mk1 klq12 (by decide +kernel) rfl rfl
theorem cwX12_lessonOf : Cond.code yX12_lessonOf cX12_lessonOf 2 (some .int) ∈ g_wk := g_wk_ofn (k := 8) (j := 151) rfl rfl
theorem mkX12_lessonOf : g_mck (1, 1, 8, 151, 1, 13, 8, 150, 0, 102) (g_cn 12, yX12_lessonOf, cX12_lessonOf, 2, (some .int), g_look2 ttX12_lessonOf) = true := g_mk1 klq12 (by decide +kernel) rfl rfl
theorem cwX12_draw : Cond.code yX12_draw cX12_draw 1 (some .int) ∈ g_wk := g_wk_ofn (k := 8) (j := 183) rfl rfl
theorem mkX12_draw : g_mck (1, 0, 8, 183, 1, 13, 8, 182, 0, 110) (g_cn 12, yX12_draw, cX12_draw, 1, (some .int), g_look2 ttX12_draw) = true := g_mk1 klq12 (by decide +kernel) rfl rfl
theorem cwX12_weakens : Cond.code yX12_weakens cX12_weakens 3 none ∈ g_wk := g_wk_ofn (k := 8) (j := 90) rfl rfl
theorem mkX12_weakens : g_mck (1, 0, 8, 90, 1, 13, 8, 89, 0, 89) (g_cn 12, yX12_weakens, cX12_weakens, 3, none, g_look2 ttX12_weakens) = true := g_mk1 klq12 (by decide +kernel) rfl rfl
theorem cwX12_isWell : Cond.code yX12_isWell cX12_isWell 2 (some .boolean) ∈ g_wk := g_wk_ofn (k := 8) (j := 135) rfl rfl
theorem mkX12_isWell : g_mck (1, 1, 8, 135, 1, 13, 8, 134, 0, 98) (g_cn 12, yX12_isWell, cX12_isWell, 2, (some .boolean), g_look2 ttX12_isWell) = true := g_mk1 klq12 (by decide +kernel) rfl rfl
theorem cwX12_feeds : Cond.code yX12_feeds cX12_feeds 3 none ∈ g_wk := g_wk_ofn (k := 8) (j := 143) rfl rfl
theorem mkX12_feeds : g_mck (1, 1, 8, 143, 1, 13, 8, 142, 0, 100) (g_cn 12, yX12_feeds, cX12_feeds, 3, none, g_look2 ttX12_feeds) = true := g_mk1 klq12 (by decide +kernel) rfl rfl
theorem cwX12_teaches : Cond.code yX12_teaches cX12_teaches 4 none ∈ g_wk := g_wk_ofn (k := 8) (j := 147) rfl rfl
theorem mkX12_teaches : g_mck (1, 1, 8, 147, 1, 13, 8, 146, 0, 101) (g_cn 12, yX12_teaches, cX12_teaches, 4, none, g_look2 ttX12_teaches) = true := g_mk1 klq12 (by decide +kernel) rfl rfl
theorem cwX12_wardsGo : Cond.code yX12_wardsGo cX12_wardsGo 2 none ∈ g_wk := g_wk_ofn (k := 8) (j := 131) rfl rfl
theorem mkX12_wardsGo : g_mck (1, 0, 8, 131, 1, 13, 8, 130, 0, 97) (g_cn 12, yX12_wardsGo, cX12_wardsGo, 2, none, g_look2 ttX12_wardsGo) = true := g_mk1 klq12 (by decide +kernel) rfl rfl
theorem cwX12_breaks : Cond.code yX12_breaks cX12_breaks 3 none ∈ g_wk := g_wk_ofn (k := 8) (j := 159) rfl rfl
theorem mkX12_breaks : g_mck (1, 0, 8, 159, 1, 13, 8, 158, 0, 104) (g_cn 12, yX12_breaks, cX12_breaks, 3, none, g_look2 ttX12_breaks) = true := g_mk1 klq12 (by decide +kernel) rfl rfl
theorem cwX12_whistle : Cond.code yX12_whistle cX12_whistle 3 none ∈ g_wk := g_wk_ofn (k := 8) (j := 163) rfl rfl
theorem mkX12_whistle : g_mck (1, 0, 8, 163, 1, 13, 8, 162, 0, 105) (g_cn 12, yX12_whistle, cX12_whistle, 3, none, g_look2 ttX12_whistle) = true := g_mk1 klq12 (by decide +kernel) rfl rfl
theorem cwX12_nursesGo : Cond.code yX12_nursesGo cX12_nursesGo 3 none ∈ g_wk := g_wk_ofn (k := 8) (j := 175) rfl rfl
theorem mkX12_nursesGo : g_mck (1, 0, 8, 175, 1, 13, 8, 174, 0, 108) (g_cn 12, yX12_nursesGo, cX12_nursesGo, 3, none, g_look2 ttX12_nursesGo) = true := g_mk1 klq12 (by decide +kernel) rfl rfl
theorem cwX12_judges : Cond.code yX12_judges cX12_judges 3 none ∈ g_wk := g_wk_ofn (k := 8) (j := 188) rfl rfl
theorem mkX12_judges : g_mck (1, 0, 8, 188, 1, 13, 8, 187, 0, 111) (g_cn 12, yX12_judges, cX12_judges, 3, none, g_look2 ttX12_judges) = true := g_mk1 klq12 (by decide +kernel) rfl rfl
theorem cwX12_go : Cond.code yX12_go cX12_go 3 none ∈ g_wk := g_wk_ofn (k := 8) (j := 86) rfl rfl
theorem mkX12_go : g_mck (1, 1, 8, 86, 1, 13, 8, 85, 0, 88) (g_cn 12, yX12_go, cX12_go, 3, none, g_look2 ttX12_go) = true := g_mk1 klq12 (by decide +kernel) rfl rfl
theorem cwX12_months : Cond.code yX12_months cX12_months 2 (some .int) ∈ g_wk := g_wk_ofn (k := 8) (j := 82) rfl rfl
theorem mkX12_months : g_mck (1, 1, 8, 82, 1, 13, 8, 80, 8, 81) (g_cn 12, yX12_months, cX12_months, 2, (some .int), g_look2 ttX12_months) = true := g_mk1 klq12 (by decide +kernel) rfl rfl
theorem cwX12_laysAside : Cond.code yX12_laysAside cX12_laysAside 4 none ∈ g_wk := g_wk_ofn (k := 8) (j := 205) rfl rfl
theorem mkX12_laysAside : g_mck (1, 1, 8, 205, 1, 13, 8, 204, 0, 114) (g_cn 12, yX12_laysAside, cX12_laysAside, 4, none, g_look2 ttX12_laysAside) = true := g_mk1 klq12 (by decide +kernel) rfl rfl
theorem cwX12_bringsBack : Cond.code yX12_bringsBack cX12_bringsBack 4 none ∈ g_wk := g_wk_ofn (k := 8) (j := 209) rfl rfl
theorem mkX12_bringsBack : g_mck (1, 1, 8, 209, 1, 13, 8, 208, 0, 115) (g_cn 12, yX12_bringsBack, cX12_bringsBack, 4, none, g_look2 ttX12_bringsBack) = true := g_mk1 klq12 (by decide +kernel) rfl rfl
theorem cwX12_tried : Cond.code yX12_tried cX12_tried 4 (some .int) ∈ g_wk := g_wk_ofn (k := 8) (j := 200) rfl rfl
theorem mkX12_tried : g_mck (1, 2, 8, 200, 1, 13, 8, 198, 8, 199) (g_cn 12, yX12_tried, cX12_tried, 4, (some .int), g_look2 ttX12_tried) = true := g_mk1 klq12 (by decide +kernel) rfl rfl
theorem cwX12_orLess : Cond.code yX12_orLess cX12_orLess 1 (some .int) ∈ g_wk := g_wk_ofn (k := 8) (j := 216) rfl rfl
theorem mkX12_orLess : g_mck (0, 1, 8, 216, 1, 13, 8, 215, 0, 0) (g_cn 12, yX12_orLess, cX12_orLess, 1, (some .int), g_look2 ttX12_orLess) = true := g_mk0 klq12 (by decide +kernel) rfl
theorem cwX12_gustIs : Cond.code yX12_gustIs cX12_gustIs 3 (some .int) ∈ g_wk := g_wk_ofn (k := 8) (j := 213) rfl rfl
theorem mkX12_gustIs : g_mck (1, 2, 8, 213, 1, 13, 8, 211, 8, 212) (g_cn 12, yX12_gustIs, cX12_gustIs, 3, (some .int), g_look2 ttX12_gustIs) = true := g_mk1 klq12 (by decide +kernel) rfl rfl
theorem cwX12_setIn : Cond.code yX12_setIn cX12_setIn 4 (some .int) ∈ g_wk := g_wk_ofn (k := 8) (j := 224) rfl rfl
theorem mkX12_setIn : g_mck (1, 1, 8, 224, 1, 13, 8, 223, 0, 116) (g_cn 12, yX12_setIn, cX12_setIn, 4, (some .int), g_look2 ttX12_setIn) = true := g_mk1 klq12 (by decide +kernel) rfl rfl
theorem cwX12_brokenIn : Cond.code yX12_brokenIn cX12_brokenIn 3 (some .int) ∈ g_wk := g_wk_ofn (k := 8) (j := 228) rfl rfl
theorem mkX12_brokenIn : g_mck (1, 1, 8, 228, 1, 13, 8, 227, 0, 117) (g_cn 12, yX12_brokenIn, cX12_brokenIn, 3, (some .int), g_look2 ttX12_brokenIn) = true := g_mk1 klq12 (by decide +kernel) rfl rfl
theorem cwX12_wardIs : Cond.code yX12_wardIs cX12_wardIs 3 (some .int) ∈ g_wk := g_wk_ofn (k := 8) (j := 220) rfl rfl
theorem mkX12_wardIs : g_mck (1, 2, 8, 220, 1, 13, 8, 218, 8, 219) (g_cn 12, yX12_wardIs, cX12_wardIs, 3, (some .int), g_look2 ttX12_wardIs) = true := g_mk1 klq12 (by decide +kernel) rfl rfl
theorem cwX12_nurseIs : Cond.code yX12_nurseIs cX12_nurseIs 3 (some .int) ∈ g_wk := g_wk_ofn (k := 8) (j := 232) rfl rfl
theorem mkX12_nurseIs : g_mck (1, 2, 8, 232, 1, 13, 8, 230, 8, 231) (g_cn 12, yX12_nurseIs, cX12_nurseIs, 3, (some .int), g_look2 ttX12_nurseIs) = true := g_mk1 klq12 (by decide +kernel) rfl rfl
theorem cwX12_quarrel : Cond.code yX12_quarrel cX12_quarrel 3 (some .int) ∈ g_wk := g_wk_ofn (k := 8) (j := 236) rfl rfl
theorem mkX12_quarrel : g_mck (1, 2, 8, 236, 1, 13, 8, 234, 8, 235) (g_cn 12, yX12_quarrel, cX12_quarrel, 3, (some .int), g_look2 ttX12_quarrel) = true := g_mk1 klq12 (by decide +kernel) rfl rfl
theorem cwX12_toldGusts : Cond.code yX12_toldGusts cX12_toldGusts 3 (some .int) ∈ g_wk := g_wk_ofn (k := 9) (j := 8) rfl rfl
theorem mkX12_toldGusts : g_mck (1, 0, 9, 8, 1, 13, 9, 7, 0, 119) (g_cn 12, yX12_toldGusts, cX12_toldGusts, 3, (some .int), g_look2 ttX12_toldGusts) = true := g_mk1 klq12 (by decide +kernel) rfl rfl
theorem cwX12_areGusts : Cond.code yX12_areGusts cX12_areGusts 4 (some .boolean) ∈ g_wk := g_wk_ofn (k := 9) (j := 4) rfl rfl
theorem mkX12_areGusts : g_mck (1, 3, 9, 4, 1, 13, 9, 3, 0, 118) (g_cn 12, yX12_areGusts, cX12_areGusts, 4, (some .boolean), g_look2 ttX12_areGusts) = true := g_mk1 klq12 (by decide +kernel) rfl rfl
theorem cwX12_takesSome : Cond.code yX12_takesSome cX12_takesSome 4 (some .int) ∈ g_wk := g_wk_ofn (k := 9) (j := 13) rfl rfl
theorem mkX12_takesSome : g_mck (1, 1, 9, 13, 1, 13, 9, 12, 0, 120) (g_cn 12, yX12_takesSome, cX12_takesSome, 4, (some .int), g_look2 ttX12_takesSome) = true := g_mk1 klq12 (by decide +kernel) rfl rfl
theorem cwX12_placeIn : Cond.code yX12_placeIn cX12_placeIn 2 (some .int) ∈ g_wk := g_wk_ofn (k := 9) (j := 40) rfl rfl
theorem mkX12_placeIn : g_mck (0, 2, 9, 40, 1, 13, 9, 39, 0, 0) (g_cn 12, yX12_placeIn, cX12_placeIn, 2, (some .int), g_look2 ttX12_placeIn) = true := g_mk0 klq12 (by decide +kernel) rfl
theorem cwX12_powerOf : Cond.code yX12_powerOf cX12_powerOf 4 (some .int) ∈ g_wk := g_wk_ofn (k := 9) (j := 21) rfl rfl
theorem mkX12_powerOf : g_mck (0, 2, 9, 21, 1, 13, 9, 20, 0, 0) (g_cn 12, yX12_powerOf, cX12_powerOf, 4, (some .int), g_look2 ttX12_powerOf) = true := g_mk0 klq12 (by decide +kernel) rfl
theorem cwX12_opensRow : Cond.code yX12_opensRow cX12_opensRow 6 none ∈ g_wk := g_wk_ofn (k := 9) (j := 25) rfl rfl
theorem mkX12_opensRow : g_mck (1, 3, 9, 25, 1, 13, 9, 24, 0, 122) (g_cn 12, yX12_opensRow, cX12_opensRow, 6, none, g_look2 ttX12_opensRow) = true := g_mk1 klq12 (by decide +kernel) rfl rfl
theorem cwX12_keepsRow : Cond.code yX12_keepsRow cX12_keepsRow 3 none ∈ g_wk := g_wk_ofn (k := 9) (j := 37) rfl rfl
theorem mkX12_keepsRow : g_mck (1, 1, 9, 37, 1, 13, 9, 36, 0, 125) (g_cn 12, yX12_keepsRow, cX12_keepsRow, 3, none, g_look2 ttX12_keepsRow) = true := g_mk1 klq12 (by decide +kernel) rfl rfl
theorem cwX12_takesPlaces : Cond.code yX12_takesPlaces cX12_takesPlaces 4 (some .int) ∈ g_wk := g_wk_ofn (k := 9) (j := 17) rfl rfl
theorem mkX12_takesPlaces : g_mck (1, 1, 9, 17, 1, 13, 9, 16, 0, 121) (g_cn 12, yX12_takesPlaces, cX12_takesPlaces, 4, (some .int), g_look2 ttX12_takesPlaces) = true := g_mk1 klq12 (by decide +kernel) rfl rfl
theorem cwX12_isRoomFor : Cond.code yX12_isRoomFor cX12_isRoomFor 6 (some .boolean) ∈ g_wk := g_wk_ofn (k := 9) (j := 29) rfl rfl
theorem mkX12_isRoomFor : g_mck (1, 2, 9, 29, 1, 13, 9, 28, 0, 123) (g_cn 12, yX12_isRoomFor, cX12_isRoomFor, 6, (some .boolean), g_look2 ttX12_isRoomFor) = true := g_mk1 klq12 (by decide +kernel) rfl rfl
theorem cwX12_twosIn : Cond.code yX12_twosIn cX12_twosIn 5 (some .int) ∈ g_wk := g_wk_ofn (k := 9) (j := 33) rfl rfl
theorem mkX12_twosIn : g_mck (1, 1, 9, 33, 1, 13, 9, 32, 0, 124) (g_cn 12, yX12_twosIn, cX12_twosIn, 5, (some .int), g_look2 ttX12_twosIn) = true := g_mk1 klq12 (by decide +kernel) rfl rfl
theorem cwX12_housed : Cond.code yX12_housed cX12_housed 9 (some .int) ∈ g_wk := g_wk_ofn (k := 9) (j := 0) rfl rfl
theorem mkX12_housed : g_mck (1, 3, 9, 0, 1, 13, 8, 238, 8, 239) (g_cn 12, yX12_housed, cX12_housed, 9, (some .int), g_look2 ttX12_housed) = true := g_mk1 klq12 (by decide +kernel) rfl rfl
theorem cwX12_wind : Cond.code yX12_wind cX12_wind 4 (some .boolean) ∈ g_wk := g_wk_ofn (k := 9) (j := 44) rfl rfl
theorem mkX12_wind : g_mck (1, 3, 9, 44, 1, 13, 9, 42, 9, 43) (g_cn 12, yX12_wind, cX12_wind, 4, (some .boolean), g_look2 ttX12_wind) = true := g_mk1 klq12 (by decide +kernel) rfl rfl
theorem cwX12_canGo : Cond.code yX12_canGo cX12_canGo 4 (some .boolean) ∈ g_wk := g_wk_ofn (k := 9) (j := 62) rfl rfl
theorem mkX12_canGo : g_mck (1, 2, 9, 62, 1, 13, 9, 61, 0, 128) (g_cn 12, yX12_canGo, cX12_canGo, 4, (some .boolean), g_look2 ttX12_canGo) = true := g_mk1 klq12 (by decide +kernel) rfl rfl
theorem cwX12_canLeave : Cond.code yX12_canLeave cX12_canLeave 5 (some .boolean) ∈ g_wk := g_wk_ofn (k := 9) (j := 58) rfl rfl
theorem mkX12_canLeave : g_mck (1, 1, 9, 58, 1, 13, 9, 57, 0, 127) (g_cn 12, yX12_canLeave, cX12_canLeave, 5, (some .boolean), g_look2 ttX12_canLeave) = true := g_mk1 klq12 (by decide +kernel) rfl rfl
theorem cwX12_laysLeaving : Cond.code yX12_laysLeaving cX12_laysLeaving 3 none ∈ g_wk := g_wk_ofn (k := 9) (j := 54) rfl rfl
theorem mkX12_laysLeaving : g_mck (1, 1, 9, 54, 1, 13, 9, 53, 0, 126) (g_cn 12, yX12_laysLeaving, cX12_laysLeaving, 3, none, g_look2 ttX12_laysLeaving) = true := g_mk1 klq12 (by decide +kernel) rfl rfl
theorem cwX12_leaving : Cond.code yX12_leaving cX12_leaving 3 (some .int) ∈ g_wk := g_wk_ofn (k := 9) (j := 50) rfl rfl
theorem mkX12_leaving : g_mck (1, 2, 9, 50, 1, 13, 9, 48, 9, 49) (g_cn 12, yX12_leaving, cX12_leaving, 3, (some .int), g_look2 ttX12_leaving) = true := g_mk1 klq12 (by decide +kernel) rfl rfl
theorem cwX12_letGo : Cond.code yX12_letGo cX12_letGo 5 (some .int) ∈ g_wk := g_wk_ofn (k := 9) (j := 66) rfl rfl
theorem mkX12_letGo : g_mck (1, 1, 9, 66, 1, 13, 9, 64, 9, 65) (g_cn 12, yX12_letGo, cX12_letGo, 5, (some .int), g_look2 ttX12_letGo) = true := g_mk1 klq12 (by decide +kernel) rfl rfl
theorem cwX12_home : Cond.code yX12_home cX12_home 3 (some .boolean) ∈ g_wk := g_wk_ofn (k := 9) (j := 70) rfl rfl
theorem mkX12_home : g_mck (1, 2, 9, 70, 1, 13, 9, 68, 9, 69) (g_cn 12, yX12_home, cX12_home, 3, (some .boolean), g_look2 ttX12_home) = true := g_mk1 klq12 (by decide +kernel) rfl rfl
theorem cwX12_homesFor : Cond.code yX12_homesFor cX12_homesFor 5 (some .int) ∈ g_wk := g_wk_ofn (k := 9) (j := 78) rfl rfl
theorem mkX12_homesFor : g_mck (1, 2, 9, 78, 1, 13, 9, 77, 0, 129) (g_cn 12, yX12_homesFor, cX12_homesFor, 5, (some .int), g_look2 ttX12_homesFor) = true := g_mk1 klq12 (by decide +kernel) rfl rfl
theorem cwX12_greaterPart : Cond.code yX12_greaterPart cX12_greaterPart 5 (some .int) ∈ g_wk := g_wk_ofn (k := 9) (j := 82) rfl rfl
theorem mkX12_greaterPart : g_mck (1, 2, 9, 82, 1, 13, 9, 81, 0, 130) (g_cn 12, yX12_greaterPart, cX12_greaterPart, 5, (some .int), g_look2 ttX12_greaterPart) = true := g_mk1 klq12 (by decide +kernel) rfl rfl
theorem cwX12_from : Cond.code yX12_from cX12_from 8 (some .int) ∈ g_wk := g_wk_ofn (k := 9) (j := 74) rfl rfl
theorem mkX12_from : g_mck (1, 3, 9, 74, 1, 13, 9, 72, 9, 73) (g_cn 12, yX12_from, cX12_from, 8, (some .int), g_look2 ttX12_from) = true := g_mk1 klq12 (by decide +kernel) rfl rfl
theorem cwX12_laysLessons : Cond.code yX12_laysLessons cX12_laysLessons 7 (some .boolean) ∈ g_wk := g_wk_ofn (k := 9) (j := 90) rfl rfl
theorem mkX12_laysLessons : g_mck (1, 2, 9, 90, 1, 13, 9, 89, 0, 131) (g_cn 12, yX12_laysLessons, cX12_laysLessons, 7, (some .boolean), g_look2 ttX12_laysLessons) = true := g_mk1 klq12 (by decide +kernel) rfl rfl
theorem cwX12_taught : Cond.code yX12_taught cX12_taught 4 (some .int) ∈ g_wk := g_wk_ofn (k := 9) (j := 86) rfl rfl
theorem mkX12_taught : g_mck (1, 3, 9, 86, 1, 13, 9, 84, 9, 85) (g_cn 12, yX12_taught, cX12_taught, 4, (some .int), g_look2 ttX12_taught) = true := g_mk1 klq12 (by decide +kernel) rfl rfl
theorem cwX12_house : Cond.code yX12_house cX12_house 4 (some .boolean) ∈ g_wk := g_wk_ofn (k := 9) (j := 94) rfl rfl
theorem mkX12_house : g_mck (1, 3, 9, 94, 1, 13, 9, 92, 9, 93) (g_cn 12, yX12_house, cX12_house, 4, (some .boolean), g_look2 ttX12_house) = true := g_mk1 klq12 (by decide +kernel) rfl rfl
theorem cwX12_isHigher : Cond.code yX12_isHigher cX12_isHigher 3 (some .boolean) ∈ g_wk := g_wk_ofn (k := 9) (j := 114) rfl rfl
theorem mkX12_isHigher : g_mck (1, 2, 9, 114, 1, 13, 9, 113, 0, 135) (g_cn 12, yX12_isHigher, cX12_isHigher, 3, (some .boolean), g_look2 ttX12_isHigher) = true := g_mk1 klq12 (by decide +kernel) rfl rfl
theorem cwX12_isLiked : Cond.code yX12_isLiked cX12_isLiked 6 (some .boolean) ∈ g_wk := g_wk_ofn (k := 9) (j := 118) rfl rfl
theorem mkX12_isLiked : g_mck (1, 3, 9, 118, 1, 13, 9, 117, 0, 136) (g_cn 12, yX12_isLiked, cX12_isLiked, 6, (some .boolean), g_look2 ttX12_isLiked) = true := g_mk1 klq12 (by decide +kernel) rfl rfl
theorem cwX12_asksNext : Cond.code yX12_asksNext cX12_asksNext 4 (some .int) ∈ g_wk := g_wk_ofn (k := 9) (j := 110) rfl rfl
theorem mkX12_asksNext : g_mck (1, 1, 9, 110, 1, 13, 9, 109, 0, 134) (g_cn 12, yX12_asksNext, cX12_asksNext, 4, (some .int), g_look2 ttX12_asksNext) = true := g_mk1 klq12 (by decide +kernel) rfl rfl
theorem cwX12_isAnywhere : Cond.code yX12_isAnywhere cX12_isAnywhere 3 (some .boolean) ∈ g_wk := g_wk_ofn (k := 9) (j := 106) rfl rfl
theorem mkX12_isAnywhere : g_mck (1, 1, 9, 106, 1, 13, 9, 105, 0, 133) (g_cn 12, yX12_isAnywhere, cX12_isAnywhere, 3, (some .boolean), g_look2 ttX12_isAnywhere) = true := g_mk1 klq12 (by decide +kernel) rfl rfl
theorem cwX12_laysPlaces : Cond.code yX12_laysPlaces cX12_laysPlaces 6 none ∈ g_wk := g_wk_ofn (k := 9) (j := 102) rfl rfl
theorem mkX12_laysPlaces : g_mck (1, 1, 9, 102, 1, 13, 9, 101, 0, 132) (g_cn 12, yX12_laysPlaces, cX12_laysPlaces, 6, none, g_look2 ttX12_laysPlaces) = true := g_mk1 klq12 (by decide +kernel) rfl rfl
theorem cwX12_placed : Cond.code yX12_placed cX12_placed 4 (some .int) ∈ g_wk := g_wk_ofn (k := 9) (j := 98) rfl rfl
theorem mkX12_placed : g_mck (1, 2, 9, 98, 1, 13, 9, 96, 9, 97) (g_cn 12, yX12_placed, cX12_placed, 4, (some .int), g_look2 ttX12_placed) = true := g_mk1 klq12 (by decide +kernel) rfl rfl
theorem cwX12_fair : Cond.code yX12_fair cX12_fair 7 (some .int) ∈ g_wk := g_wk_ofn (k := 9) (j := 122) rfl rfl
theorem mkX12_fair : g_mck (1, 1, 9, 122, 1, 13, 9, 120, 9, 121) (g_cn 12, yX12_fair, cX12_fair, 7, (some .int), g_look2 ttX12_fair) = true := g_mk1 klq12 (by decide +kernel) rfl rfl
theorem cwX12_lower : Cond.code yX12_lower cX12_lower 2 (some .int) ∈ g_wk := g_wk_ofn (k := 9) (j := 146) rfl rfl
theorem mkX12_lower : g_mck (0, 2, 9, 146, 1, 13, 9, 145, 0, 0) (g_cn 12, yX12_lower, cX12_lower, 2, (some .int), g_look2 ttX12_lower) = true := g_mk0 klq12 (by decide +kernel) rfl
theorem cwX12_higher : Cond.code yX12_higher cX12_higher 2 (some .int) ∈ g_wk := g_wk_ofn (k := 9) (j := 143) rfl rfl
theorem mkX12_higher : g_mck (0, 2, 9, 143, 1, 13, 9, 142, 0, 0) (g_cn 12, yX12_higher, cX12_higher, 2, (some .int), g_look2 ttX12_higher) = true := g_mk0 klq12 (by decide +kernel) rfl
theorem cwX12_hourOf : Cond.code yX12_hourOf cX12_hourOf 2 (some .int) ∈ g_wk := g_wk_ofn (k := 9) (j := 135) rfl rfl
theorem mkX12_hourOf : g_mck (1, 1, 9, 135, 1, 13, 9, 134, 0, 138) (g_cn 12, yX12_hourOf, cX12_hourOf, 2, (some .int), g_look2 ttX12_hourOf) = true := g_mk1 klq12 (by decide +kernel) rfl rfl
theorem cwX12_laysAhead : Cond.code yX12_laysAhead cX12_laysAhead 5 (some .boolean) ∈ g_wk := g_wk_ofn (k := 9) (j := 139) rfl rfl
theorem mkX12_laysAhead : g_mck (1, 2, 9, 139, 1, 13, 9, 138, 0, 139) (g_cn 12, yX12_laysAhead, cX12_laysAhead, 5, (some .boolean), g_look2 ttX12_laysAhead) = true := g_mk1 klq12 (by decide +kernel) rfl rfl
theorem cwX12_laysBehind : Cond.code yX12_laysBehind cX12_laysBehind 5 none ∈ g_wk := g_wk_ofn (k := 9) (j := 150) rfl rfl
theorem mkX12_laysBehind : g_mck (1, 2, 9, 150, 1, 13, 9, 149, 0, 140) (g_cn 12, yX12_laysBehind, cX12_laysBehind, 5, none, g_look2 ttX12_laysBehind) = true := g_mk1 klq12 (by decide +kernel) rfl rfl
theorem cwX12_escaped : Cond.code yX12_escaped cX12_escaped 9 (some .int) ∈ g_wk := g_wk_ofn (k := 9) (j := 130) rfl rfl
theorem mkX12_escaped : g_mck (1, 4, 9, 130, 1, 13, 9, 128, 9, 129) (g_cn 12, yX12_escaped, cX12_escaped, 9, (some .int), g_look2 ttX12_escaped) = true := g_mk1 klq12 (by decide +kernel) rfl rfl
theorem cwX12_isOrder : Cond.code yX12_isOrder cX12_isOrder 4 (some .boolean) ∈ g_wk := g_wk_ofn (k := 9) (j := 162) rfl rfl
theorem mkX12_isOrder : g_mck (1, 1, 9, 162, 1, 13, 9, 161, 0, 142) (g_cn 12, yX12_isOrder, cX12_isOrder, 4, (some .boolean), g_look2 ttX12_isOrder) = true := g_mk1 klq12 (by decide +kernel) rfl rfl
theorem cwX12_toldNurses : Cond.code yX12_toldNurses cX12_toldNurses 3 (some .int) ∈ g_wk := g_wk_ofn (k := 9) (j := 158) rfl rfl
theorem mkX12_toldNurses : g_mck (1, 0, 9, 158, 1, 13, 9, 157, 0, 141) (g_cn 12, yX12_toldNurses, cX12_toldNurses, 3, (some .int), g_look2 ttX12_toldNurses) = true := g_mk1 klq12 (by decide +kernel) rfl rfl
theorem cwX12_nursed : Cond.code yX12_nursed cX12_nursed 10 (some .int) ∈ g_wk := g_wk_ofn (k := 9) (j := 154) rfl rfl
theorem mkX12_nursed : g_mck (1, 3, 9, 154, 1, 13, 9, 152, 9, 153) (g_cn 12, yX12_nursed, cX12_nursed, 10, (some .int), g_look2 ttX12_nursed) = true := g_mk1 klq12 (by decide +kernel) rfl rfl
theorem cwX12_laysRing : Cond.code yX12_laysRing cX12_laysRing 6 none ∈ g_wk := g_wk_ofn (k := 9) (j := 170) rfl rfl
theorem mkX12_laysRing : g_mck (1, 1, 9, 170, 1, 13, 9, 169, 0, 143) (g_cn 12, yX12_laysRing, cX12_laysRing, 6, none, g_look2 ttX12_laysRing) = true := g_mk1 klq12 (by decide +kernel) rfl rfl
theorem cwX12_round : Cond.code yX12_round cX12_round 8 (some .int) ∈ g_wk := g_wk_ofn (k := 9) (j := 166) rfl rfl
theorem mkX12_round : g_mck (1, 2, 9, 166, 1, 13, 9, 164, 9, 165) (g_cn 12, yX12_round, cX12_round, 8, (some .int), g_look2 ttX12_round) = true := g_mk1 klq12 (by decide +kernel) rfl rfl
theorem cwX12_partOf : Cond.code yX12_partOf cX12_partOf 2 (some .int) ∈ g_wk := g_wk_ofn (k := 9) (j := 177) rfl rfl
theorem mkX12_partOf : g_mck (0, 2, 9, 177, 1, 13, 9, 176, 0, 0) (g_cn 12, yX12_partOf, cX12_partOf, 2, (some .int), g_look2 ttX12_partOf) = true := g_mk0 klq12 (by decide +kernel) rfl
theorem cwX12_added : Cond.code yX12_added cX12_added 5 (some .int) ∈ g_wk := g_wk_ofn (k := 9) (j := 174) rfl rfl
theorem mkX12_added : g_mck (1, 2, 9, 174, 1, 13, 9, 172, 9, 173) (g_cn 12, yX12_added, cX12_added, 5, (some .int), g_look2 ttX12_added) = true := g_mk1 klq12 (by decide +kernel) rfl rfl
theorem cwX12_seed : Cond.code yX12_seed cX12_seed 2 (some .boolean) ∈ g_wk := g_wk_ofn (k := 9) (j := 181) rfl rfl
theorem mkX12_seed : g_mck (1, 1, 9, 181, 1, 13, 9, 179, 9, 180) (g_cn 12, yX12_seed, cX12_seed, 2, (some .boolean), g_look2 ttX12_seed) = true := g_mk1 klq12 (by decide +kernel) rfl rfl
theorem cwX12_keep : Cond.code yX12_keep cX12_keep 1 (some .int) ∈ g_wk := g_wk_ofn (k := 9) (j := 186) rfl rfl
theorem mkX12_keep : g_mck (1, 0, 9, 186, 1, 13, 9, 184, 9, 185) (g_cn 12, yX12_keep, cX12_keep, 1, (some .int), g_look2 ttX12_keep) = true := g_mk1 klq12 (by decide +kernel) rfl rfl
theorem cwX12_undo : Cond.code yX12_undo cX12_undo 1 (some .boolean) ∈ g_wk := g_wk_ofn (k := 9) (j := 190) rfl rfl
theorem mkX12_undo : g_mck (1, 0, 9, 190, 1, 13, 9, 188, 9, 189) (g_cn 12, yX12_undo, cX12_undo, 1, (some .boolean), g_look2 ttX12_undo) = true := g_mk1 klq12 (by decide +kernel) rfl rfl
theorem cwX12_check : Cond.code yX12_check cX12_check 3 (some .int) ∈ g_wk := g_wk_ofn (k := 9) (j := 194) rfl rfl
theorem mkX12_check : g_mck (1, 1, 9, 194, 1, 13, 9, 192, 9, 193) (g_cn 12, yX12_check, cX12_check, 3, (some .int), g_look2 ttX12_check) = true := g_mk1 klq12 (by decide +kernel) rfl rfl
theorem cwX12_toldOf : Cond.code yX12_toldOf cX12_toldOf 4 (some .int) ∈ g_wk := g_wk_ofn (k := 9) (j := 203) rfl rfl
theorem mkX12_toldOf : g_mck (1, 1, 9, 203, 1, 13, 9, 202, 0, 144) (g_cn 12, yX12_toldOf, cX12_toldOf, 4, (some .int), g_look2 ttX12_toldOf) = true := g_mk1 klq12 (by decide +kernel) rfl rfl
theorem cwX12_count : Cond.code yX12_count cX12_count 2 (some .int) ∈ g_wk := g_wk_ofn (k := 9) (j := 199) rfl rfl
theorem mkX12_count : g_mck (1, 1, 9, 199, 1, 13, 9, 197, 9, 198) (g_cn 12, yX12_count, cX12_count, 2, (some .int), g_look2 ttX12_count) = true := g_mk1 klq12 (by decide +kernel) rfl rfl
theorem cwJ6_bitCount_0f7a4 : Cond.code yJ6_bitCount_0f7a4 cJ6_bitCount_0f7a4 1 (some .int) ∈ g_wk := g_wk_ofn (k := 3) (j := 23) rfl rfl
theorem klq13 : g_kc RJ6 (g_cn 14) 1 14 = true := by decide +kernel
theorem mkJ6_bitCount_0f7a4 : g_mck (0, 1, 3, 23, 1, 14, 3, 22, 0, 0) (g_cn 14, yJ6_bitCount_0f7a4, cJ6_bitCount_0f7a4, 1, (some .int), g_look2 ttJ6_bitCount_0f7a4) = true := g_mk0 klq13 (by decide +kernel) rfl
theorem cwJ7_fill_53178 : Cond.code yJ7_fill_53178 cJ7_fill_53178 4 none ∈ g_wk := g_wk_ofn (k := 4) (j := 100) rfl rfl
theorem klq14 : g_kc RJ7 (g_cn 16) 1 22 = true := by decide +kernel
theorem mkJ7_fill_53178 : g_mck (0, 2, 4, 100, 1, 22, 4, 99, 0, 0) (g_cn 16, yJ7_fill_53178, cJ7_fill_53178, 4, none, g_look2 ttJ7_fill_53178) = true := g_mk0 klq14 (by decide +kernel) rfl
end Prt15
section Prt15b
noncomputable def g_F2 {α β : Type} (P : α → β → Prop) : List α → List β → Prop
  | [], [] => True
  | a :: l, b :: m => P a b ∧ g_F2 P l m
  | _, _ => False
theorem g_F2n {α β : Type} {P : α → β → Prop} : g_F2 P [] [] := True.intro
theorem g_F2c {α β : Type} {P : α → β → Prop} {a : α} {b : β} {l : List α} {m : List β} (h : P a b) (t : g_F2 P l m) : g_F2 P (a :: l) (b :: m) := show P a b ∧ g_F2 P l m from ⟨h, t⟩
theorem g_F2d {α β : Type} {P : α → β → Prop} {a : α} {b : β} {l : List α} {m : List β} (h : g_F2 P (a :: l) (b :: m)) : P a b ∧ g_F2 P l m := h
theorem g_F2i {α β : Type} {P : α → β → Prop} : ∀ {l : List α} {m : List β} (_ : g_F2 P l m) {i : Nat} {b : β} (_ : m[i]? = some b), ∃ a, l[i]? = some a ∧ P a b
  | [], [], _, i, b, hb => by simp at hb
  | [], b :: m, h, _, _, _ => False.elim h
  | a :: l, [], h, _, _, _ => False.elim h
  | a :: l, c :: m, h, 0, b, hb => by
    simp only [List.getElem?_cons_zero, Option.some.injEq] at hb
    subst hb; exact ⟨a, rfl, (g_F2d h).1⟩
  | a :: l, c :: m, h, i + 1, b, hb => by
    simp only [List.getElem?_cons_succ] at hb ⊢
    exact g_F2i (g_F2d h).2 hb
theorem g_F2s {α β : Type} {P : α → β → Prop} {a : α} {b : β} {l : List α} {m : List β} (t : g_F2 P l m) : g_F2 P (a :: l).tail (b :: m).tail := t
theorem g_F2t {α : Type} {l : List α} {k : Nat} {a : α} (h : l[k + 1]? = some a) : l.tail[k]? = some a := by
  cases l with
  | nil => simp at h
  | cons x l => simpa using h
theorem g_F2u {α : Type} {l : List α} {k : Nat} {a : α} (h : l.tail[k]? = some a) : l[k + 1]? = some a := by
  cases l with
  | nil => simp at h
  | cons x l => simpa using h
noncomputable def g_PM (f : Nat × Nat × Nat × Nat × Nat × Nat × Nat × Nat × Nat × Nat) (M : g_M) : Prop := g_mck f M = true ∧ Cond.code M.2.1 M.2.2.1 M.2.2.2.1 M.2.2.2.2.1 ∈ g_wk
theorem g_F2m {f : Nat × Nat × Nat × Nat × Nat × Nat × Nat × Nat × Nat × Nat} {M : g_M} {l : List (Nat × Nat × Nat × Nat × Nat × Nat × Nat × Nat × Nat × Nat)} {m : List g_M} (h1 : g_mck f M = true) (h2 : Cond.code M.2.1 M.2.2.1 M.2.2.2.1 M.2.2.2.2.1 ∈ g_wk) (t : g_F2 g_PM l m) : g_F2 g_PM (f :: l) (M :: m) := g_F2c ⟨h1, h2⟩ t
set_option maxRecDepth 100000 in
theorem g_MF_2 : g_F2 g_PM g_MF.tail g_ml.tail := by
  refine g_F2s ?_
  refine g_F2m mkX0_init cwX0_init ?_
  refine g_F2m mkX0_go cwX0_go ?_
  refine g_F2m mkX0_pass cwX0_pass ?_
  refine g_F2m mkX0_weaken cwX0_weaken ?_
  refine g_F2m mkX0_strengthen cwX0_strengthen ?_
  refine g_F2m mkX0_teach cwX0_teach ?_
  refine g_F2m mkX0_breakToys cwX0_breakToys ?_
  refine g_F2m mkX0_quarrelAll cwX0_quarrelAll ?_
  refine g_F2m mkX0_recover cwX0_recover ?_
  refine g_F2m mkX0_sicken cwX0_sicken ?_
  refine g_F2m mkX0_askRules cwX0_askRules ?_
  refine g_F2m mkX1_init cwX1_init ?_
  refine g_F2m mkX1_clear cwX1_clear ?_
  refine g_F2m mkX1_openClause cwX1_openClause ?_
  refine g_F2m mkX1_openCondition cwX1_openCondition ?_
  refine g_F2m mkX1_closeClause cwX1_closeClause ?_
  refine g_F2m mkX1_put cwX1_put ?_
  refine g_F2m mkX1_land cwX1_land ?_
  refine g_F2m mkX1_run cwX1_run ?_
  refine g_F2m mkX1_valueAt cwX1_valueAt ?_
  refine g_F2m mkX1_join cwX1_join ?_
  refine g_F2m mkX2_init cwX2_init ?_
  refine g_F2m mkX2_keeperOf cwX2_keeperOf ?_
  refine g_F2m mkX2_readRow cwX2_readRow ?_
  refine g_F2m mkX2_envious cwX2_envious ?_
  refine g_F2m mkX2_highest cwX2_highest ?_
  refine g_F2m mkX2_dearest cwX2_dearest ?_
  refine g_F2m mkX2_higher cwX2_higher ?_
  refine g_F2m mkX2_dearer cwX2_dearer ?_
  refine g_F2m mkX3_init cwX3_init ?_
  refine g_F2m mkX3_exchangeLaw cwX3_exchangeLaw ?_
  refine g_F2m mkX3_exchangeRules cwX3_exchangeRules ?_
  refine g_F2m mkX3_clauses cwX3_clauses ?_
  refine g_F2m mkX3_ruleCount cwX3_ruleCount ?_
  refine g_F2m mkX3_ofGust cwX3_ofGust ?_
  refine g_F2m mkX3_learns cwX3_learns ?_
  refine g_F2m mkX3_atOdds cwX3_atOdds ?_
  refine g_F2m mkX3_illness cwX3_illness ?_
  refine g_F2m mkX3_firstBroken cwX3_firstBroken ?_
  refine g_F2m mkX3_lookAtGust cwX3_lookAtGust ?_
  refine g_F2m mkX3_lookAtTwo cwX3_lookAtTwo ?_
  refine g_F2m mkX3_lookAtWard cwX3_lookAtWard ?_
  refine g_F2m mkX3_firstAmount cwX3_firstAmount ?_
  refine g_F2m mkX3_anyHolds cwX3_anyHolds ?_
  refine g_F2m mkX4_init cwX4_init ?_
  refine g_F2m mkX4_lodge cwX4_lodge ?_
  refine g_F2m mkX4_staff cwX4_staff ?_
  refine g_F2m mkX4_chosenFor cwX4_chosenFor ?_
  refine g_F2m mkX4_ring cwX4_ring ?_
  refine g_F2m mkX4_ringAt cwX4_ringAt ?_
  refine g_F2m mkX4_spread cwX4_spread ?_
  refine g_F2m mkX4_learnOdds cwX4_learnOdds ?_
  refine g_F2m mkX4_lodgeFrom cwX4_lodgeFrom ?_
  refine g_F2m mkX4_staffFrom cwX4_staffFrom ?_
  refine g_F2m mkX4_keepRow cwX4_keepRow ?_
  refine g_F2m mkX4_waysOn cwX4_waysOn ?_
  refine g_F2m mkX4_walkFirst cwX4_walkFirst ?_
  refine g_F2m mkX4_firstOn cwX4_firstOn ?_
  refine g_F2m mkX5_init cwX5_init ?_
  refine g_F2m mkX5_readText cwX5_readText ?_
  refine g_F2m mkX5_readTimetable cwX5_readTimetable ?_
  refine g_F2m mkX5_begin cwX5_begin ?_
  refine g_F2m mkX5_here cwX5_here ?_
  refine g_F2m mkX5_fail cwX5_fail ?_
  refine g_F2m mkX5_expect cwX5_expect ?_
  refine g_F2m mkX5_opens cwX5_opens ?_
  refine g_F2m mkX5_readClause cwX5_readClause ?_
  refine g_F2m mkX5_readRule cwX5_readRule ?_
  refine g_F2m mkX5_readWhole cwX5_readWhole ?_
  refine g_F2m mkX5_readBracket cwX5_readBracket ?_
  refine g_F2m mkX5_readCondition cwX5_readCondition ?_
  refine g_F2m mkX5_readPart cwX5_readPart ?_
  refine g_F2m mkX5_readTest cwX5_readTest ?_
  refine g_F2m mkX5_readSum cwX5_readSum ?_
  refine g_F2m mkX5_readTerm cwX5_readTerm ?_
  refine g_F2m mkX5_readFactor cwX5_readFactor ?_
  refine g_F2m mkX5_readNumber cwX5_readNumber ?_
  refine g_F2m mkX5_readMonths cwX5_readMonths ?_
  refine g_F2m mkX5_readMonth cwX5_readMonth ?_
  refine g_F2m mkX5_readGroup cwX5_readGroup ?_
  refine g_F2m mkX5_writeMonth cwX5_writeMonth ?_
  refine g_F2m mkX5_repeat cwX5_repeat ?_
  refine g_F2m mkX6_init cwX6_init ?_
  refine g_F2m mkX6_order cwX6_order ?_
  refine g_F2m mkX6_withNeeds cwX6_withNeeds ?_
  refine g_F2m mkX6_lowestReady cwX6_lowestReady ?_
  refine g_F2m mkX7_init cwX7_init ?_
  refine g_F2m mkX7_hasGust cwX7_hasGust ?_
  refine g_F2m mkX7_hasNurse cwX7_hasNurse ?_
  refine g_F2m mkX7_works cwX7_works ?_
  refine g_F2m mkX7_inWard cwX7_inWard ?_
  refine g_F2m mkX7_draw cwX7_draw ?_
  refine g_F2m mkX7_copy cwX7_copy ?_
  refine g_F2m mkX8_init cwX8_init ?_
  refine g_F2m mkX8_takes cwX8_takes ?_
  refine g_F2m mkX8_append cwX8_append ?_
  refine g_F2m mkX8_at cwX8_at ?_
  refine g_F2m mkX8_empty cwX8_empty ?_
  refine g_F2m mkX9_init cwX9_init ?_
  refine g_F2m mkX9_learnFrom cwX9_learnFrom ?_
  refine g_F2m mkX9_lessonAt cwX9_lessonAt ?_
  refine g_F2m mkX9_placeAfter cwX9_placeAfter ?_
  refine g_F2m mkX10_init cwX10_init ?_
  refine g_F2m mkX10_sendOff cwX10_sendOff ?_
  refine g_F2m mkX10_windOf cwX10_windOf ?_
  refine g_F2m mkX10_sendFrom cwX10_sendFrom ?_
  refine g_F2m mkX10_mayBeat cwX10_mayBeat ?_
  refine g_F2m mkX10_windOfGale cwX10_windOfGale ?_
  refine g_F2m mkX10_carries cwX10_carries ?_
  refine g_F2m mkX11_init cwX11_init ?_
  refine g_F2m mkX11_gust cwX11_gust ?_
  refine g_F2m mkX11_name cwX11_name ?_
  refine g_F2m mkX11_moves cwX11_moves ?_
  refine g_F2m mkX11_habit cwX11_habit ?_
  refine g_F2m mkX11_ward cwX11_ward ?_
  refine g_F2m mkX11_nurse cwX11_nurse ?_
  refine g_F2m mkX11_needs cwX11_needs ?_
  refine g_F2m mkX11_wind cwX11_wind ?_
  refine g_F2m mkX11_home cwX11_home ?_
  refine g_F2m mkX11_house cwX11_house ?_
  refine g_F2m mkX11_seed cwX11_seed ?_
  refine g_F2m mkX11_feed cwX11_feed ?_
  refine g_F2m mkX11_law cwX11_law ?_
  refine g_F2m mkX11_rules cwX11_rules ?_
  refine g_F2m mkX11_timetable cwX11_timetable ?_
  refine g_F2m mkX11_months cwX11_months ?_
  refine g_F2m mkX11_tried cwX11_tried ?_
  refine g_F2m mkX11_gustIs cwX11_gustIs ?_
  refine g_F2m mkX11_wardIs cwX11_wardIs ?_
  refine g_F2m mkX11_nurseIs cwX11_nurseIs ?_
  refine g_F2m mkX11_quarrel cwX11_quarrel ?_
  refine g_F2m mkX11_count cwX11_count ?_
  refine g_F2m mkX11_added cwX11_added ?_
  refine g_F2m mkX11_housed cwX11_housed ?_
  refine g_F2m mkX11_leaving cwX11_leaving ?_
  refine g_F2m mkX11_letGo cwX11_letGo ?_
  refine g_F2m mkX11_from cwX11_from ?_
  refine g_F2m mkX11_taught cwX11_taught ?_
  refine g_F2m mkX11_placed cwX11_placed ?_
  refine g_F2m mkX11_fair cwX11_fair ?_
  refine g_F2m mkX11_escaped cwX11_escaped ?_
  refine g_F2m mkX11_nursed cwX11_nursed ?_
  refine g_F2m mkX11_round cwX11_round ?_
  refine g_F2m mkX11_keep cwX11_keep ?_
  refine g_F2m mkX11_undo cwX11_undo ?_
  refine g_F2m mkX11_check cwX11_check ?_
  refine g_F2m mkX11_within cwX11_within ?_
  refine g_F2m mkX11_isIn cwX11_isIn ?_
  refine g_F2m mkX11_placeIn cwX11_placeIn ?_
  refine g_F2m mkX11_chosen cwX11_chosen ?_
  refine g_F2m mkX11_wardAt cwX11_wardAt ?_
  refine g_F2m mkX11_northward cwX11_northward ?_
  refine g_F2m mkX11_homesLike cwX11_homesLike ?_
  refine g_F2m mkX11_mostTelling cwX11_mostTelling ?_
  refine g_F2m mkX11_homesWith cwX11_homesWith ?_
  refine g_F2m mkX11_sought cwX11_sought ?_
  refine g_F2m mkX11_sightingsStand cwX11_sightingsStand ?_
  refine g_F2m mkX11_sightingsAgree cwX11_sightingsAgree ?_
  refine g_F2m mkX12_init cwX12_init ?_
  refine g_F2m mkX12_lies cwX12_lies ?_
  refine g_F2m mkX12_has cwX12_has ?_
  refine g_F2m mkX12_sizeOf cwX12_sizeOf ?_
  refine g_F2m mkX12_held cwX12_held ?_
  refine g_F2m mkX12_push cwX12_push ?_
  refine g_F2m mkX12_feed cwX12_feed ?_
  refine g_F2m mkX12_byteAt cwX12_byteAt ?_
  refine g_F2m mkX12_here cwX12_here ?_
  refine g_F2m mkX12_wrongs cwX12_wrongs ?_
  refine g_F2m mkX12_isGood cwX12_isGood ?_
  refine g_F2m mkX12_seesDigit cwX12_seesDigit ?_
  refine g_F2m mkX12_begins cwX12_begins ?_
  refine g_F2m mkX12_emit cwX12_emit ?_
  refine g_F2m mkX12_top cwX12_top ?_
  refine g_F2m mkX12_puts cwX12_puts ?_
  refine g_F2m mkX12_opens cwX12_opens ?_
  refine g_F2m mkX12_reads cwX12_reads ?_
  refine g_F2m mkX12_isTimes cwX12_isTimes ?_
  refine g_F2m mkX12_isPlus cwX12_isPlus ?_
  refine g_F2m mkX12_isCompared cwX12_isCompared ?_
  refine g_F2m mkX12_isValue cwX12_isValue ?_
  refine g_F2m mkX12_sums cwX12_sums ?_
  refine g_F2m mkX12_joins cwX12_joins ?_
  refine g_F2m mkX12_ends cwX12_ends ?_
  refine g_F2m mkX12_factor cwX12_factor ?_
  refine g_F2m mkX12_stays cwX12_stays ?_
  refine g_F2m mkX12_value cwX12_value ?_
  refine g_F2m mkX12_pieceOfC cwX12_pieceOfC ?_
  refine g_F2m mkX12_goesBehind cwX12_goesBehind ?_
  refine g_F2m mkX12_condition cwX12_condition ?_
  refine g_F2m mkX12_isClause cwX12_isClause ?_
  refine g_F2m mkX12_clause cwX12_clause ?_
  refine g_F2m mkX12_takesText cwX12_takesText ?_
  refine g_F2m mkX12_law cwX12_law ?_
  refine g_F2m mkX12_rules cwX12_rules ?_
  refine g_F2m mkX12_valueOf cwX12_valueOf ?_
  refine g_F2m mkX12_worked cwX12_worked ?_
  refine g_F2m mkX12_does cwX12_does ?_
  refine g_F2m mkX12_works cwX12_works ?_
  refine g_F2m mkX12_isSo cwX12_isSo ?_
  refine g_F2m mkX12_tells cwX12_tells ?_
  refine g_F2m mkX12_says cwX12_says ?_
  refine g_F2m mkX12_nothingStands cwX12_nothingStands ?_
  refine g_F2m mkX12_gustStands cwX12_gustStands ?_
  refine g_F2m mkX12_falling cwX12_falling ?_
  refine g_F2m mkX12_isKeptBy cwX12_isKeptBy ?_
  refine g_F2m mkX12_isAngry cwX12_isAngry ?_
  refine g_F2m mkX12_doQuarrel cwX12_doQuarrel ?_
  refine g_F2m mkX12_isTold cwX12_isTold ?_
  refine g_F2m mkX12_isWard cwX12_isWard ?_
  refine g_F2m mkX12_isThere cwX12_isThere ?_
  refine g_F2m mkX12_areHabits cwX12_areHabits ?_
  refine g_F2m mkX12_isIn cwX12_isIn ?_
  refine g_F2m mkX12_manyIn cwX12_manyIn ?_
  refine g_F2m mkX12_togetherIn cwX12_togetherIn ?_
  refine g_F2m mkX12_gust cwX12_gust ?_
  refine g_F2m mkX12_name cwX12_name ?_
  refine g_F2m mkX12_moves cwX12_moves ?_
  refine g_F2m mkX12_habit cwX12_habit ?_
  refine g_F2m mkX12_ward cwX12_ward ?_
  refine g_F2m mkX12_nurse cwX12_nurse ?_
  refine g_F2m mkX12_needs cwX12_needs ?_
  refine g_F2m mkX12_repeats cwX12_repeats ?_
  refine g_F2m mkX12_timesTold cwX12_timesTold ?_
  refine g_F2m mkX12_monthTold cwX12_monthTold ?_
  refine g_F2m mkX12_timetable cwX12_timetable ?_
  refine g_F2m mkX12_lessonOf cwX12_lessonOf ?_
  refine g_F2m mkX12_draw cwX12_draw ?_
  refine g_F2m mkX12_weakens cwX12_weakens ?_
  refine g_F2m mkX12_isWell cwX12_isWell ?_
  refine g_F2m mkX12_feeds cwX12_feeds ?_
  refine g_F2m mkX12_teaches cwX12_teaches ?_
  refine g_F2m mkX12_wardsGo cwX12_wardsGo ?_
  refine g_F2m mkX12_breaks cwX12_breaks ?_
  refine g_F2m mkX12_whistle cwX12_whistle ?_
  refine g_F2m mkX12_nursesGo cwX12_nursesGo ?_
  refine g_F2m mkX12_judges cwX12_judges ?_
  refine g_F2m mkX12_go cwX12_go ?_
  refine g_F2m mkX12_months cwX12_months ?_
  refine g_F2m mkX12_laysAside cwX12_laysAside ?_
  refine g_F2m mkX12_bringsBack cwX12_bringsBack ?_
  refine g_F2m mkX12_tried cwX12_tried ?_
  refine g_F2m mkX12_orLess cwX12_orLess ?_
  refine g_F2m mkX12_gustIs cwX12_gustIs ?_
  refine g_F2m mkX12_setIn cwX12_setIn ?_
  refine g_F2m mkX12_brokenIn cwX12_brokenIn ?_
  refine g_F2m mkX12_wardIs cwX12_wardIs ?_
  refine g_F2m mkX12_nurseIs cwX12_nurseIs ?_
  refine g_F2m mkX12_quarrel cwX12_quarrel ?_
  refine g_F2m mkX12_toldGusts cwX12_toldGusts ?_
  refine g_F2m mkX12_areGusts cwX12_areGusts ?_
  refine g_F2m mkX12_takesSome cwX12_takesSome ?_
  refine g_F2m mkX12_placeIn cwX12_placeIn ?_
  refine g_F2m mkX12_powerOf cwX12_powerOf ?_
  refine g_F2m mkX12_opensRow cwX12_opensRow ?_
  refine g_F2m mkX12_keepsRow cwX12_keepsRow ?_
  refine g_F2m mkX12_takesPlaces cwX12_takesPlaces ?_
  refine g_F2m mkX12_isRoomFor cwX12_isRoomFor ?_
  refine g_F2m mkX12_twosIn cwX12_twosIn ?_
  refine g_F2m mkX12_housed cwX12_housed ?_
  refine g_F2m mkX12_wind cwX12_wind ?_
  refine g_F2m mkX12_canGo cwX12_canGo ?_
  refine g_F2m mkX12_canLeave cwX12_canLeave ?_
  refine g_F2m mkX12_laysLeaving cwX12_laysLeaving ?_
  refine g_F2m mkX12_leaving cwX12_leaving ?_
  refine g_F2m mkX12_letGo cwX12_letGo ?_
  refine g_F2m mkX12_home cwX12_home ?_
  refine g_F2m mkX12_homesFor cwX12_homesFor ?_
  refine g_F2m mkX12_greaterPart cwX12_greaterPart ?_
  refine g_F2m mkX12_from cwX12_from ?_
  refine g_F2m mkX12_laysLessons cwX12_laysLessons ?_
  refine g_F2m mkX12_taught cwX12_taught ?_
  refine g_F2m mkX12_house cwX12_house ?_
  refine g_F2m mkX12_isHigher cwX12_isHigher ?_
  refine g_F2m mkX12_isLiked cwX12_isLiked ?_
  refine g_F2m mkX12_asksNext cwX12_asksNext ?_
  refine g_F2m mkX12_isAnywhere cwX12_isAnywhere ?_
  refine g_F2m mkX12_laysPlaces cwX12_laysPlaces ?_
  refine g_F2m mkX12_placed cwX12_placed ?_
  refine g_F2m mkX12_fair cwX12_fair ?_
  refine g_F2m mkX12_lower cwX12_lower ?_
  refine g_F2m mkX12_higher cwX12_higher ?_
  refine g_F2m mkX12_hourOf cwX12_hourOf ?_
  refine g_F2m mkX12_laysAhead cwX12_laysAhead ?_
  refine g_F2m mkX12_laysBehind cwX12_laysBehind ?_
  refine g_F2m mkX12_escaped cwX12_escaped ?_
  refine g_F2m mkX12_isOrder cwX12_isOrder ?_
  refine g_F2m mkX12_toldNurses cwX12_toldNurses ?_
  refine g_F2m mkX12_nursed cwX12_nursed ?_
  refine g_F2m mkX12_laysRing cwX12_laysRing ?_
  refine g_F2m mkX12_round cwX12_round ?_
  refine g_F2m mkX12_partOf cwX12_partOf ?_
  refine g_F2m mkX12_added cwX12_added ?_
  refine g_F2m mkX12_seed cwX12_seed ?_
  refine g_F2m mkX12_keep cwX12_keep ?_
  refine g_F2m mkX12_undo cwX12_undo ?_
  refine g_F2m mkX12_check cwX12_check ?_
  refine g_F2m mkX12_toldOf cwX12_toldOf ?_
  refine g_F2m mkX12_count cwX12_count ?_
  refine g_F2m mkJ6_bitCount_0f7a4 cwJ6_bitCount_0f7a4 ?_
  refine g_F2m mkJ7_fill_53178 cwJ7_fill_53178 ?_
  exact g_F2n
theorem g_MF_ok {x : Nat} {f : Nat × Nat × Nat × Nat × Nat × Nat × Nat × Nat × Nat × Nat} {M : g_M} (h1 : g_MF[x]? = some f) (h2 : g_ml[x]? = some M) (h3 : f.1 ≠ 9) : g_mck f M = true ∧ Cond.code M.2.1 M.2.2.1 M.2.2.2.1 M.2.2.2.2.1 ∈ g_wk := by
  cases x with
  | zero => cases h1; exact absurd rfl h3
  | succ k =>
    obtain ⟨a, ha, hP⟩ := g_F2i g_MF_2 (g_F2t h2)
    rw [g_F2t h1] at ha; cases ha; exact hP
theorem g_mck_base {f : Nat × Nat × Nat × Nat × Nat × Nat × Nat × Nat × Nat × Nat} {M : g_M} (h : g_mck f M = true) : plainName M.2.1.cls = true ∧ M.2.2.2.1 ≤ 45 ∧ M.2.1.cls = M.1 := by
  obtain ⟨kd, n, k1, j1, k2, j2, k3, j3, k4, j4⟩ := f
  simp only [g_mck, Bool.and_eq_true, decide_eq_true_eq] at h
  exact ⟨h.1.1, h.1.2.1, h.1.2.2.1⟩
theorem g_mck_c {f : Nat × Nat × Nat × Nat × Nat × Nat × Nat × Nat × Nat × Nat} {M : g_M} (h : g_mck f M = true) : Cond.initialized M.2.1.cls ∈ g_wk ∧ (M.2.1.cls ≠ "java/lang/invoke/MethodHandle" ∧ M.2.1.cls ≠ "java/lang/invoke/VarHandle" ∧ (parseMethodDescriptor M.2.1.desc).map (fun d => d.parameters.length) = some f.2.1) := by
  obtain ⟨kd, n, k1, j1, k2, j2, k3, j3, k4, j4⟩ := f
  simp only [g_mck, Bool.and_eq_true, decide_eq_true_eq] at h
  exact ⟨g_wkB_in h.2.2.1, h.1.2.2.2.1, h.1.2.2.2.2, h.2.1⟩
theorem g_mck_0 {f : Nat × Nat × Nat × Nat × Nat × Nat × Nat × Nat × Nat × Nat} {M : g_M} (h : g_mck f M = true) (hk : f.1 = 0) : Cond.static M.2.1 ∈ g_wk := by
  obtain ⟨kd, n, k1, j1, k2, j2, k3, j3, k4, j4⟩ := f
  dsimp only at hk
  subst hk
  simp only [g_mck, Bool.and_eq_true, decide_eq_true_eq] at h
  exact g_wkB_in h.2.2.2
theorem g_mck_1 {f : Nat × Nat × Nat × Nat × Nat × Nat × Nat × Nat × Nat × Nat} {M : g_M} (h : g_mck f M = true) (hk : f.1 = 1) : Cond.instanceMethod M.2.1 ∈ g_wk ∧ Cond.selects M.2.1.cls M.2.1 M.2.1 ∈ g_wk := by
  obtain ⟨kd, n, k1, j1, k2, j2, k3, j3, k4, j4⟩ := f
  dsimp only at hk
  subst hk
  simp only [g_mck, Bool.and_eq_true, decide_eq_true_eq] at h
  exact ⟨g_wkB_in h.2.2.2.1, g_wkB_in h.2.2.2.2⟩
theorem g_mck_2 {f : Nat × Nat × Nat × Nat × Nat × Nat × Nat × Nat × Nat × Nat} {M : g_M} (h : g_mck f M = true) (hk : f.1 = 2) : M.2.1.name = "<init>" ∧ Cond.instanceMethod M.2.1 ∈ g_wk ∧ M.2.2.2.2.1 = none := by
  obtain ⟨kd, n, k1, j1, k2, j2, k3, j3, k4, j4⟩ := f
  dsimp only at hk
  subst hk
  simp only [g_mck, Bool.and_eq_true, decide_eq_true_eq] at h
  exact ⟨h.2.2.2.2.1, g_wkB_in h.2.2.2.1, h.2.2.2.2.2⟩
theorem g_fl {oc i x y p : Nat} {q : Nat × Nat × Nat × Nat × Bool × Nat × Nat} (h1 : g_FL[p]? = some q) (h2 : q.1 = oc) (h3 : q.2.1 = i) (h4 : q.2.2.1 = x) (h5 : q.2.2.2.1 = y) : ∃ (C : String) (T : u_T) (N : Nat), vwCl[x]? = some (C, T, N) ∧ y < N ∧ (T y).1 = C ∧ ((q.2.2.2.2.1 = false ∧ Cond.fieldLink (g_cn oc) i C (T y).2.1 (T y).2.2.1 ∈ g_wk) ∨ (q.2.2.2.2.1 = true ∧ ∃ h, Cond.fieldLinkNest (g_cn oc) i C (T y).2.1 (T y).2.2.1 h ∈ g_wn)) := by
  have h6 := List.all_eq_true.mp g_FL_ok q (List.mem_of_getElem? h1)
  obtain ⟨oc', i', x', y', ne, k, j⟩ := q
  dsimp only at h2 h3 h4 h5
  subst h2 h3 h4 h5
  dsimp only [g_fck] at h6
  split at h6
  · rename_i C T N hc
    rw [Bool.and_eq_true, Bool.and_eq_true, decide_eq_true_eq, decide_eq_true_eq] at h6
    refine ⟨C, T, N, hc, h6.1, h6.2.1, ?_⟩
    cases ne
    · exact Or.inl ⟨rfl, g_wkB_in h6.2.2⟩
    · exact Or.inr ⟨rfl, _, g_wnB_in h6.2.2⟩
  · cases h6
theorem g_clk {oc i x p : Nat} {q : Nat × Nat × Nat × Bool × Nat × Nat} (h1 : g_CL[p]? = some q) (h2 : q.1 = oc) (h3 : q.2.1 = i) (h4 : q.2.2.1 = x) {M : g_M} (hM : g_ml[x]? = some M) : Cond.methodLink (g_cn oc) i M.2.1 ∈ g_wk ∨ ∃ h, Cond.methodLinkNest (g_cn oc) i M.2.1 h ∈ g_wn := by
  have h6 := List.all_eq_true.mp g_CL_ok q (List.mem_of_getElem? h1)
  obtain ⟨oc', i', x', ne, k, j⟩ := q
  dsimp only at h2 h3 h4
  subst h2 h3 h4
  dsimp only [g_cck] at h6
  rw [hM] at h6
  dsimp only at h6
  cases ne
  · exact Or.inl (g_wkB_in h6)
  · exact Or.inr ⟨_, g_wnB_in h6⟩
theorem g_kl {oc i : Nat} {z : Int} (h : g_KL.any (fun q => (q.1 == oc && q.2.1 == i) && (q.2.2.1 == z && !q.2.2.2.1)) = true) : Cond.constant (g_cn oc) i (Int32.ofInt z) ∈ g_wk := by
  obtain ⟨q, hq, h2⟩ := List.any_eq_true.mp h
  have h6 := List.all_eq_true.mp g_KL_ok q hq
  obtain ⟨oc', i', v, lg, k, j⟩ := q
  simp only [Bool.and_eq_true, beq_iff_eq, Bool.not_eq_true'] at h2
  obtain ⟨⟨rfl, rfl⟩, rfl, rfl⟩ := h2
  exact g_wkB_in h6
theorem g_kl2 {oc i : Nat} {z : Int} (h : g_KL.any (fun q => (q.1 == oc && q.2.1 == i) && (q.2.2.1 == z && q.2.2.2.1)) = true) : Cond.constantLong (g_cn oc) i (Int64.ofInt z) ∈ g_wk := by
  obtain ⟨q, hq, h2⟩ := List.any_eq_true.mp h
  have h6 := List.all_eq_true.mp g_KL_ok q hq
  obtain ⟨oc', i', v, lg, k, j⟩ := q
  simp only [Bool.and_eq_true, beq_iff_eq] at h2
  obtain ⟨⟨rfl, rfl⟩, rfl, rfl⟩ := h2
  exact g_wkB_in h6
theorem g_cL_kst {oc : Nat} {ini : Bool} {ins : Instr} {x y : Nat} {z : Int} (h : g_cL oc ini ins x y z = true) : g_kst (g_cn oc) z ins := by
  unfold g_kst
  split
  · exact g_kl h
  · exact g_kl h
  · exact g_kl2 h
  · trivial
set_option maxHeartbeats 1000000 in
theorem g_cL_lkh {oc : Nat} {ini : Bool} {mn : String} (hini : ini = true → mn = "<init>") {ins : Instr} {x y : Nat} {z : Int} (h : g_cL oc ini ins x y z = true) : g_lkh (g_cn oc) mn x y ins := by
  unfold g_lkh
  split
  · dsimp only [g_cL] at h
    split at h
    · rename_i q hq
      simp only [Bool.and_eq_true, beq_iff_eq] at h
      obtain ⟨C, T, N, h1, h2, h3, h4⟩ := g_fl hq h.1.1 h.1.2 h.2.1 h.2.2
      exact ⟨C, T, N, h1, h2, h3, h4.imp (fun a => a.2) (fun a => a.2)⟩
    · cases h
  · dsimp only [g_cL] at h
    split at h
    · rename_i q hq
      rw [Bool.and_eq_true] at h
      obtain ⟨ha, hb⟩ := h
      simp only [Bool.and_eq_true, beq_iff_eq] at ha
      obtain ⟨C, T, N, h1, h2, h3, h4⟩ := g_fl hq ha.1.1 ha.1.2 ha.2.1 ha.2.2
      refine ⟨C, T, N, h1, h2, h3, ?_⟩
      rw [h1] at hb
      dsimp only at hb
      cases hf : (T y).2.2.2
      · exact Or.inl ⟨rfl, h4.imp (fun a => a.2) (fun a => a.2)⟩
      · rw [hf] at hb
        simp only [cond_true, Bool.and_eq_true, beq_iff_eq, Bool.not_eq_true'] at hb
        obtain ⟨hb1, hb2, hb3⟩ := hb
        rcases h4 with h4 | h4
        · refine Or.inr ⟨rfl, hini hb1, ?_, h4.2⟩
          rw [h3]
          rw [← hb2]
          match x, h1 with
          | 0, h1 => cases h1; rfl
          | 1, h1 => cases h1; rfl
          | 2, h1 => cases h1; rfl
          | 3, h1 => cases h1; rfl
          | 4, h1 => cases h1; rfl
          | 5, h1 => cases h1; rfl
          | 6, h1 => cases h1; rfl
          | 7, h1 => cases h1; rfl
          | 8, h1 => cases h1; rfl
          | 9, h1 => cases h1; rfl
          | 10, h1 => cases h1; rfl
          | 11, h1 => cases h1; rfl
          | 12, h1 => cases h1; rfl
          | n + 13, h1 => simp [vwCl] at h1
        · rw [hb3] at h4; cases h4.1
    · cases h
  · dsimp only [g_cL] at h
    split at h
    · rename_i q hq
      simp only [Bool.and_eq_true, beq_iff_eq] at h
      have h6 := List.all_eq_true.mp g_NL_ok q (List.mem_of_getElem? hq)
      obtain ⟨oc', i', x', k, j, k2, j2, k3, j3⟩ := q
      dsimp only at h
      obtain ⟨⟨rfl, rfl⟩, rfl⟩ := h
      dsimp only [g_nck] at h6
      split at h6
      · rename_i C T N hc
        rw [Bool.and_eq_true, Bool.and_eq_true] at h6
        exact ⟨C, T, N, hc, g_wkB_in h6.1, g_wkB_in h6.2.1, g_wkB_in h6.2.2⟩
      · cases h6
    · cases h
  · rename_i t
    cases t <;> first | exact g_ac_int | exact g_ac_byte | exact g_ac_boolean | (simp [g_cL, g_tag] at h)
  · obtain ⟨q, hq, h2⟩ := List.any_eq_true.mp h
    have h6 := List.all_eq_true.mp g_AL_ok q hq
    obtain ⟨oc', i', k, j⟩ := q
    simp only [Bool.and_eq_true, beq_iff_eq] at h2
    obtain ⟨rfl, rfl⟩ := h2
    exact g_wkB_in h6
  · refine ⟨fun hx => ?_, fun hx => ?_⟩
    · subst hx
      have h7 : g_YL.any (fun q => q.1 == oc && q.2.1 == _) = true := h
      obtain ⟨q, hq, h2⟩ := List.any_eq_true.mp h7
      have h6 := List.all_eq_true.mp g_YL_ok q hq
      obtain ⟨oc', i', k, j⟩ := q
      simp only [Bool.and_eq_true, beq_iff_eq] at h2
      obtain ⟨rfl, rfl⟩ := h2
      exact ⟨g_wkB_in h6, g_y1, g_y2, g_y3⟩
    · have key : ∀ i, g_ZL.any (fun q => (q.1 == oc && q.2.1 == i) && q.2.2.1 == x) = true → Cond.methodLink (g_cn oc) i (g_zn x) ∈ g_wk := by
        intro i h7
        obtain ⟨q, hq, h2⟩ := List.any_eq_true.mp h7
        have h6 := List.all_eq_true.mp g_ZL_ok q hq
        obtain ⟨oc', i', x', k, j⟩ := q
        simp only [Bool.and_eq_true, beq_iff_eq] at h2
        obtain ⟨⟨rfl, rfl⟩, rfl⟩ := h2
        exact g_wkB_in h6
      refine ⟨g_z0, fun hx2 => ?_, fun hx2 => ?_, fun hx2 => ?_⟩
      · subst hx2
        exact ⟨key _ h, g_zs_max, g_zc_max⟩
      · subst hx2
        exact ⟨key _ h, g_zs_min, g_zc_min⟩
      · subst hx2
        exact ⟨key _ h, g_zs_abs, g_zc_abs⟩
  · trivial
set_option maxRecDepth 100000 in
theorem g_ml_77 : g_ml[77777]? = none ∧ g_ml[99998]? = none ∧ g_ml[99999]? = none ∧ g_ml[99997]? = none ∧ g_ml[99996]? = none ∧ g_ml[99995]? = none := by decide +kernel
set_option maxHeartbeats 1000000 in
theorem g_cL_lkc {oc : Nat} {ini : Bool} {ins : Instr} {x y : Nat} {z : Int} (h : g_cL oc ini ins x y z = true) : g_lkc g_mt (g_cn oc) x y ins := by
  unfold g_lkc
  split
  · intro M' hM'
    have hM : g_ml[x]? = some M' := (g_mt_ml hM').2
    dsimp only [g_cL] at h
    cases hx : (x == 77777) with
    | true => rw [beq_iff_eq] at hx; subst hx; rw [g_ml_77.1] at hM; cases hM
    | false =>
      rw [hx] at h
      cases hx2 : (x == 99998) with
      | true => rw [beq_iff_eq] at hx2; subst hx2; rw [g_ml_77.2.1] at hM; cases hM
      | false =>
        rw [hx2] at h
        cases hx3 : (x == 99997 || (x == 99996 || x == 99995)) with
        | true =>
          simp only [Bool.or_eq_true, beq_iff_eq] at hx3
          rcases hx3 with hx3 | hx3 | hx3
          · subst hx3; rw [g_ml_77.2.2.2.1] at hM; cases hM
          · subst hx3; rw [g_ml_77.2.2.2.2.1] at hM; cases hM
          · subst hx3; rw [g_ml_77.2.2.2.2.2] at hM; cases hM
        | false =>
          rw [hx3] at h
          dsimp only [cond_false] at h
          split at h
          · rename_i q hq
            rw [Bool.and_eq_true] at h
            obtain ⟨ha, hb⟩ := h
            simp only [Bool.and_eq_true, beq_iff_eq] at ha
            split at hb
            · rename_i f hf
              simp only [Bool.and_eq_true, beq_iff_eq] at hb
              have hm := (g_MF_ok hf hM (by rw [hb.1]; decide)).1
              obtain ⟨c1, c2⟩ := g_mck_c hm
              rw [hb.2] at c2
              exact ⟨⟨g_clk hq ha.1.1 ha.1.2 ha.2 hM, c1, c2⟩, g_mck_0 hm hb.1⟩
            · cases hb
          · cases h
  · intro M' hM'
    have hM : g_ml[x]? = some M' := (g_mt_ml hM').2
    dsimp only [g_cL] at h
    cases hx : (x == 77777) with
    | true => rw [beq_iff_eq] at hx; subst hx; rw [g_ml_77.1] at hM; cases hM
    | false =>
      rw [hx] at h
      dsimp only [cond_false] at h
      split at h
      · rename_i q hq
        rw [Bool.and_eq_true] at h
        obtain ⟨ha, hb⟩ := h
        simp only [Bool.and_eq_true, beq_iff_eq] at ha
        split at hb
        · rename_i f hf
          simp only [Bool.and_eq_true, beq_iff_eq] at hb
          have hm := (g_MF_ok hf hM (by rw [hb.1]; decide)).1
          obtain ⟨c1, c2⟩ := g_mck_c hm
          rw [hb.2] at c2
          exact ⟨⟨g_clk hq ha.1.1 ha.1.2 ha.2 hM, c1, c2⟩, g_mck_1 hm hb.1⟩
        · cases hb
      · cases h
  · refine ⟨fun hx => ?_, fun M' hM' => ?_⟩
    · subst hx
      have h7 : g_OL.any (fun q => q.1 == oc && q.2.1 == _) = true := h
      obtain ⟨q, hq, h2⟩ := List.any_eq_true.mp h7
      have h6 := List.all_eq_true.mp g_OL_ok q hq
      obtain ⟨oc', i', k, j⟩ := q
      simp only [Bool.and_eq_true, beq_iff_eq] at h2
      obtain ⟨rfl, rfl⟩ := h2
      exact ⟨g_wkB_in h6, g_o1, g_o2⟩
    · have hM : g_ml[x]? = some M' := (g_mt_ml hM').2
      dsimp only [g_cL] at h
      cases hx2 : (x == 99999) with
      | true => rw [beq_iff_eq] at hx2; subst hx2; rw [g_ml_77.2.2.1] at hM; cases hM
      | false =>
        rw [hx2] at h
        dsimp only [cond_false] at h
        split at h
        · rename_i q hq
          rw [Bool.and_eq_true] at h
          obtain ⟨ha, hb⟩ := h
          simp only [Bool.and_eq_true, beq_iff_eq] at ha
          split at hb
          · rename_i f hf
            simp only [Bool.and_eq_true, beq_iff_eq] at hb
            have hm := (g_MF_ok hf hM (by rw [hb.1]; decide)).1
            obtain ⟨c1, c2⟩ := g_mck_c hm
            rw [hb.2] at c2
            exact ⟨⟨g_clk hq ha.1.1 ha.1.2 ha.2 hM, c1, c2⟩, g_mck_2 hm hb.1⟩
          · cases hb
        · cases h
  · trivial
theorem g_tok_of {oc : Nat} {ini : Bool} {y : MethodName} {c : ByteArray} {mx : Nat} {rt : Option FieldType} {tt : List (Nat × List (Nat × g_En))} (hini : ini = true → y.name = "<init>") (h : tt.all (fun r => r.2.all (g_cE oc ini c)) = true) : g_Tok g_mt (g_cn oc, y, c, mx, rt, g_look2 tt) := by
  intro pc en hen
  obtain ⟨q, hq, hin⟩ := g_look2_in tt pc en hen
  have h1 := List.all_eq_true.mp (List.all_eq_true.mp h q hq) (pc, en) hin
  unfold g_cE at h1
  simp only [Bool.and_eq_true, Bool.or_eq_true, decide_eq_true_eq, beq_iff_eq] at h1
  obtain ⟨a1, a2, a3, a4⟩ := h1
  refine ⟨a1, fun hs => ?_, g_cL_kst a4, fun off ho => ?_, g_cL_lkh hini a4, g_cL_lkc a4⟩
  · rcases a2 with a2 | a2
    · rw [hs] at a2; cases a2
    · exact a2
  · rw [ho] at a3
    simpa using a3
theorem g_mok_of {x : Nat} {M : g_M} {f : Nat × Nat × Nat × Nat × Nat × Nat × Nat × Nat × Nat × Nat} (h1 : g_MF[x]? = some f) (h2 : g_ml[x]? = some M) (h3 : f.1 ≠ 9) (ht : g_Tok g_mt M) : g_Mok g_mt M := by
  obtain ⟨b1, b2, b4⟩ := g_mck_base (g_MF_ok h1 h2 h3).1
  exact ⟨b1, b2, (g_MF_ok h1 h2 h3).2, b4, ht⟩
end Prt15b
