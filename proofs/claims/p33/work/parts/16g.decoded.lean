set_option maxRecDepth 100000 in
theorem tkX11_months : ttX11_months.all (fun r => r.2.all (g_cE 11 false cX11_months)) = true := by decide +kernel
set_option maxRecDepth 100000 in
theorem tkX11_tried : ttX11_tried.all (fun r => r.2.all (g_cE 11 false cX11_tried)) = true := by decide +kernel
set_option maxRecDepth 100000 in
theorem tkX11_gustIs : ttX11_gustIs.all (fun r => r.2.all (g_cE 11 false cX11_gustIs)) = true := by decide +kernel
set_option maxRecDepth 100000 in
theorem tkX11_wardIs : ttX11_wardIs.all (fun r => r.2.all (g_cE 11 false cX11_wardIs)) = true := by decide +kernel
set_option maxRecDepth 100000 in
theorem tkX11_nurseIs : ttX11_nurseIs.all (fun r => r.2.all (g_cE 11 false cX11_nurseIs)) = true := by decide +kernel
set_option maxRecDepth 100000 in
theorem tkX11_quarrel : ttX11_quarrel.all (fun r => r.2.all (g_cE 11 false cX11_quarrel)) = true := by decide +kernel
set_option maxRecDepth 100000 in
theorem tkX11_count : ttX11_count.all (fun r => r.2.all (g_cE 11 false cX11_count)) = true := by decide +kernel
set_option maxRecDepth 100000 in
theorem tkX11_added : ttX11_added.all (fun r => r.2.all (g_cE 11 false cX11_added)) = true := by decide +kernel
set_option maxRecDepth 100000 in
theorem tkX11_housed : ttX11_housed.all (fun r => r.2.all (g_cE 11 false cX11_housed)) = true := by decide +kernel
set_option maxRecDepth 100000 in
theorem tkX11_leaving : ttX11_leaving.all (fun r => r.2.all (g_cE 11 false cX11_leaving)) = true := by decide +kernel
set_option maxRecDepth 100000 in
theorem tkX11_letGo : ttX11_letGo.all (fun r => r.2.all (g_cE 11 false cX11_letGo)) = true := by decide +kernel
set_option maxRecDepth 100000 in
theorem tkX11_from : ttX11_from.all (fun r => r.2.all (g_cE 11 false cX11_from)) = true := by decide +kernel
set_option maxRecDepth 100000 in
theorem tkX11_taught : ttX11_taught.all (fun r => r.2.all (g_cE 11 false cX11_taught)) = true := by decide +kernel
set_option maxRecDepth 100000 in
theorem tkX11_placed : ttX11_placed.all (fun r => r.2.all (g_cE 11 false cX11_placed)) = true := by decide +kernel
set_option maxRecDepth 100000 in
theorem tkX11_fair : ttX11_fair.all (fun r => r.2.all (g_cE 11 false cX11_fair)) = true := by decide +kernel
set_option maxRecDepth 100000 in
theorem tkX11_escaped : ttX11_escaped.all (fun r => r.2.all (g_cE 11 false cX11_escaped)) = true := by decide +kernel
set_option maxRecDepth 100000 in
theorem tkX11_nursed : ttX11_nursed.all (fun r => r.2.all (g_cE 11 false cX11_nursed)) = true := by decide +kernel
set_option maxRecDepth 100000 in
theorem tkX11_round : ttX11_round.all (fun r => r.2.all (g_cE 11 false cX11_round)) = true := by decide +kernel
set_option maxRecDepth 100000 in
theorem tkX11_keep : ttX11_keep.all (fun r => r.2.all (g_cE 11 false cX11_keep)) = true := by decide +kernel
set_option maxRecDepth 100000 in
theorem tkX11_undo : ttX11_undo.all (fun r => r.2.all (g_cE 11 false cX11_undo)) = true := by decide +kernel
set_option maxRecDepth 100000 in
theorem tkX11_check : ttX11_check.all (fun r => r.2.all (g_cE 11 false cX11_check)) = true := by decide +kernel
set_option maxRecDepth 100000 in
theorem tkX11_within : ttX11_within.all (fun r => r.2.all (g_cE 11 false cX11_within)) = true := by decide +kernel
set_option maxRecDepth 100000 in
theorem tkX11_isIn : ttX11_isIn.all (fun r => r.2.all (g_cE 11 false cX11_isIn)) = true := by decide +kernel
set_option maxRecDepth 100000 in
theorem tkX11_placeIn : ttX11_placeIn.all (fun r => r.2.all (g_cE 11 false cX11_placeIn)) = true := by decide +kernel
set_option maxRecDepth 100000 in
theorem tkX11_chosen : ttX11_chosen.all (fun r => r.2.all (g_cE 11 false cX11_chosen)) = true := by decide +kernel
set_option maxRecDepth 100000 in
theorem tkX11_wardAt : ttX11_wardAt.all (fun r => r.2.all (g_cE 11 false cX11_wardAt)) = true := by decide +kernel
set_option maxRecDepth 100000 in
theorem tkX11_northward : ttX11_northward.all (fun r => r.2.all (g_cE 11 false cX11_northward)) = true := by decide +kernel
set_option maxRecDepth 100000 in
theorem tkX11_homesLike : ttX11_homesLike.all (fun r => r.2.all (g_cE 11 false cX11_homesLike)) = true := by decide +kernel
set_option maxRecDepth 100000 in
theorem tkX11_mostTelling : ttX11_mostTelling.all (fun r => r.2.all (g_cE 11 false cX11_mostTelling)) = true := by decide +kernel
set_option maxRecDepth 100000 in
theorem tkX11_homesWith : ttX11_homesWith.all (fun r => r.2.all (g_cE 11 false cX11_homesWith)) = true := by decide +kernel
set_option maxRecDepth 100000 in
theorem tkX11_sought : ttX11_sought.all (fun r => r.2.all (g_cE 11 false cX11_sought)) = true := by decide +kernel
set_option maxRecDepth 100000 in
theorem tkX11_sightingsStand : ttX11_sightingsStand.all (fun r => r.2.all (g_cE 11 false cX11_sightingsStand)) = true := by decide +kernel
set_option maxRecDepth 100000 in
theorem tkX11_sightingsAgree : ttX11_sightingsAgree.all (fun r => r.2.all (g_cE 11 false cX11_sightingsAgree)) = true := by decide +kernel
set_option maxRecDepth 100000 in
theorem tkX12_init_0 : ttX12_init_0.all (g_cE 12 true cX12_init) = true := by decide +kernel
set_option maxRecDepth 100000 in
theorem tkX12_init_1 : ttX12_init_1.all (g_cE 12 true cX12_init) = true := by decide +kernel
set_option maxRecDepth 100000 in
theorem tkX12_init_2 : ttX12_init_2.all (g_cE 12 true cX12_init) = true := by decide +kernel
set_option maxRecDepth 100000 in
theorem tkX12_init_3 : ttX12_init_3.all (g_cE 12 true cX12_init) = true := by decide +kernel
set_option maxRecDepth 100000 in
theorem tkX12_init_4 : ttX12_init_4.all (g_cE 12 true cX12_init) = true := by decide +kernel
set_option maxRecDepth 100000 in
theorem tkX12_init_5 : ttX12_init_5.all (g_cE 12 true cX12_init) = true := by decide +kernel
set_option maxRecDepth 100000 in
theorem tkX12_init_6 : ttX12_init_6.all (g_cE 12 true cX12_init) = true := by decide +kernel
