set_option maxRecDepth 100000 in
theorem tkX12_init_7 : ttX12_init_7.all (g_cE 12 true cX12_init) = true := by decide +kernel
set_option maxRecDepth 100000 in
theorem tkX12_init_8 : ttX12_init_8.all (g_cE 12 true cX12_init) = true := by decide +kernel
set_option maxRecDepth 100000 in
theorem tkX12_init_9 : ttX12_init_9.all (g_cE 12 true cX12_init) = true := by decide +kernel
set_option maxRecDepth 100000 in
theorem tkX12_init_10 : ttX12_init_10.all (g_cE 12 true cX12_init) = true := by decide +kernel
set_option maxRecDepth 100000 in
theorem tkX12_init_11 : ttX12_init_11.all (g_cE 12 true cX12_init) = true := by decide +kernel
set_option maxRecDepth 100000 in
theorem tkX12_init_12 : ttX12_init_12.all (g_cE 12 true cX12_init) = true := by decide +kernel
set_option maxRecDepth 100000 in
theorem tkX12_init_13 : ttX12_init_13.all (g_cE 12 true cX12_init) = true := by decide +kernel
set_option maxRecDepth 100000 in
theorem tkX12_init_14 : ttX12_init_14.all (g_cE 12 true cX12_init) = true := by decide +kernel
set_option maxRecDepth 100000 in
theorem tkX12_init_15 : ttX12_init_15.all (g_cE 12 true cX12_init) = true := by decide +kernel
set_option maxRecDepth 100000 in
theorem tkX12_init_16 : ttX12_init_16.all (g_cE 12 true cX12_init) = true := by decide +kernel
set_option maxRecDepth 100000 in
theorem tkX12_init_17 : ttX12_init_17.all (g_cE 12 true cX12_init) = true := by decide +kernel
set_option maxRecDepth 100000 in
theorem tkX12_init_18 : ttX12_init_18.all (g_cE 12 true cX12_init) = true := by decide +kernel
set_option maxRecDepth 100000 in
theorem tkX12_init_19 : ttX12_init_19.all (g_cE 12 true cX12_init) = true := by decide +kernel
set_option maxRecDepth 100000 in
theorem tkX12_init_20 : ttX12_init_20.all (g_cE 12 true cX12_init) = true := by decide +kernel
set_option maxRecDepth 100000 in
theorem tkX12_init_21 : ttX12_init_21.all (g_cE 12 true cX12_init) = true := by decide +kernel
set_option maxRecDepth 100000 in
theorem tkX12_init_22 : ttX12_init_22.all (g_cE 12 true cX12_init) = true := by decide +kernel
set_option maxRecDepth 100000 in
theorem tkX12_init_23 : ttX12_init_23.all (g_cE 12 true cX12_init) = true := by decide +kernel
set_option maxRecDepth 100000 in
theorem tkX12_init_24 : ttX12_init_24.all (g_cE 12 true cX12_init) = true := by decide +kernel
set_option maxRecDepth 100000 in
theorem tkX12_init_25 : ttX12_init_25.all (g_cE 12 true cX12_init) = true := by decide +kernel
set_option maxRecDepth 100000 in
theorem tkX12_init_26 : ttX12_init_26.all (g_cE 12 true cX12_init) = true := by decide +kernel
set_option maxRecDepth 100000 in
theorem tkX12_init_27 : ttX12_init_27.all (g_cE 12 true cX12_init) = true := by decide +kernel
theorem tkX12_init : ttX12_init.all (fun r => r.2.all (g_cE 12 true cX12_init)) = true := by
  unfold ttX12_init
  simp only [List.all_cons, List.all_nil, Bool.and_true, Bool.and_eq_true]
  exact ⟨tkX12_init_0, tkX12_init_1, tkX12_init_2, tkX12_init_3, tkX12_init_4, tkX12_init_5, tkX12_init_6, tkX12_init_7, tkX12_init_8, tkX12_init_9, tkX12_init_10, tkX12_init_11, tkX12_init_12, tkX12_init_13, tkX12_init_14, tkX12_init_15, tkX12_init_16, tkX12_init_17, tkX12_init_18, tkX12_init_19, tkX12_init_20, tkX12_init_21, tkX12_init_22, tkX12_init_23, tkX12_init_24, tkX12_init_25, tkX12_init_26, tkX12_init_27⟩
set_option maxRecDepth 100000 in
theorem tkX12_lies : ttX12_lies.all (fun r => r.2.all (g_cE 12 false cX12_lies)) = true := by decide +kernel
set_option maxRecDepth 100000 in
theorem tkX12_has : ttX12_has.all (fun r => r.2.all (g_cE 12 false cX12_has)) = true := by decide +kernel
set_option maxRecDepth 100000 in
theorem tkX12_sizeOf : ttX12_sizeOf.all (fun r => r.2.all (g_cE 12 false cX12_sizeOf)) = true := by decide +kernel
set_option maxRecDepth 100000 in
theorem tkX12_held : ttX12_held.all (fun r => r.2.all (g_cE 12 false cX12_held)) = true := by decide +kernel
set_option maxRecDepth 100000 in
theorem tkX12_push : ttX12_push.all (fun r => r.2.all (g_cE 12 false cX12_push)) = true := by decide +kernel
set_option maxRecDepth 100000 in
theorem tkX12_feed : ttX12_feed.all (fun r => r.2.all (g_cE 12 false cX12_feed)) = true := by decide +kernel
set_option maxRecDepth 100000 in
theorem tkX12_byteAt : ttX12_byteAt.all (fun r => r.2.all (g_cE 12 false cX12_byteAt)) = true := by decide +kernel
set_option maxRecDepth 100000 in
theorem tkX12_here : ttX12_here.all (fun r => r.2.all (g_cE 12 false cX12_here)) = true := by decide +kernel
set_option maxRecDepth 100000 in
theorem tkX12_wrongs : ttX12_wrongs.all (fun r => r.2.all (g_cE 12 false cX12_wrongs)) = true := by decide +kernel
set_option maxRecDepth 100000 in
theorem tkX12_isGood : ttX12_isGood.all (fun r => r.2.all (g_cE 12 false cX12_isGood)) = true := by decide +kernel
set_option maxRecDepth 100000 in
theorem tkX12_seesDigit : ttX12_seesDigit.all (fun r => r.2.all (g_cE 12 false cX12_seesDigit)) = true := by decide +kernel
set_option maxRecDepth 100000 in
theorem tkX12_begins : ttX12_begins.all (fun r => r.2.all (g_cE 12 false cX12_begins)) = true := by decide +kernel
set_option maxRecDepth 100000 in
theorem tkX12_emit : ttX12_emit.all (fun r => r.2.all (g_cE 12 false cX12_emit)) = true := by decide +kernel
set_option maxRecDepth 100000 in
theorem tkX12_top : ttX12_top.all (fun r => r.2.all (g_cE 12 false cX12_top)) = true := by decide +kernel
set_option maxRecDepth 100000 in
theorem tkX12_puts : ttX12_puts.all (fun r => r.2.all (g_cE 12 false cX12_puts)) = true := by decide +kernel
set_option maxRecDepth 100000 in
theorem tkX12_opens : ttX12_opens.all (fun r => r.2.all (g_cE 12 false cX12_opens)) = true := by decide +kernel
set_option maxRecDepth 100000 in
theorem tkX12_reads : ttX12_reads.all (fun r => r.2.all (g_cE 12 false cX12_reads)) = true := by decide +kernel
set_option maxRecDepth 100000 in
theorem tkX12_isTimes : ttX12_isTimes.all (fun r => r.2.all (g_cE 12 false cX12_isTimes)) = true := by decide +kernel
