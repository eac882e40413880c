section Prt09
noncomputable def g_rmd (d mc ms : Nat) : Room := { frames := d, cells := mc, slots := ms, locals := d * 64 }
noncomputable def g_wsM (M : g_M) : List Cond := Cond.code M.2.1 M.2.2.1 M.2.2.2.1 M.2.2.2.2.1 :: g_wk
noncomputable def g_Pc (D : va_G) (b sz : Nat) (dA : Nat → ClassId) (L : Nat) (xs : Nat → Int32) (as : List Value) (σ : List g_Ce) : Array Value → State → Prop := va_Pc (as.map (g_cv b sz)) (fun U => g_Hp D b sz dA σ U.heap ∧ g_St D dA U ∧ va_X b L xs U U.heap ∧ g_Str sz U)
noncomputable def g_Qc (D : va_G) (b sz : Nat) (dA : Nat → ClassId) (r : Option Value) (σ : List g_Ce) : Array Value → State → Outcome → State → Prop := fun _ st oc t => oc = .returned (r.map (g_cv b sz)) ∧ g_Hp D b sz dA σ t.heap ∧ va_F (g_A sz) st t
theorem g_lvargs (b sz : Nat) : ∀ (as : List Value) (i : Nat), lv_args i (as.map (g_cv b sz)) = g_cl2 b sz (lv_args i as)
  | [], _ => rfl
  | v :: vs, i => by
    show (i, g_cv b sz v) :: lv_args (if (g_cv b sz v).category = 2 then i + 2 else i + 1) (vs.map (g_cv b sz)) = (i, g_cv b sz v) :: g_cl2 b sz (lv_args (if v.category = 2 then i + 2 else i + 1) vs)
    rw [g_cv_cat, g_lvargs b sz vs]
theorem g_lgsl (b sz : Nat) : ∀ (as : List Value), (lg_sl (as.map (g_cv b sz))).length = (lg_sl as).length
  | [] => rfl
  | v :: vs => by
    have h := g_lgsl b sz vs
    simp only [lg_sl, List.map_cons, List.flatMap_cons, List.length_append, g_cv_cat] at h ⊢
    rw [h]
    split <;> rfl
theorem g_catcv (b sz : Nat) (r : List Value) : ((r.map (g_cv b sz)).map fun v => v.category).sum = g_cat r := by
  simp only [g_cat, List.map_map]
  congr 2
  funext v
  exact g_cv_cat b sz v
theorem g_good (M : g_M) (h : Cond.code M.2.1 M.2.2.1 M.2.2.2.1 M.2.2.2.2.1 ∈ g_wk) : GoodIn g_wk (g_wsM M) := by
  have k : ∀ w ∈ g_wk, w ∈ g_wk ∧ ((w.onTables && w.keeps) = true ∨ ∃ ty, w = .arrayClass ty) := fun w hw => ⟨hw, good_of_word (List.mem_filter.mp hw).2⟩
  intro w hw
  rcases List.mem_cons.mp hw with rfl | hw
  · exact k _ h
  · exact k w hw
section GC
variable {p : Program} {l : Launch} {e : Env} {R : Room} {s : State} {m : MethodId} {args : Array Value} {below : List Frame} {meth : Method} {c : Code} {H : Heap} {locs : List Loc} {cells slots : Nat} {Q : State → Prop}
variable {mt : Nat → Option g_M} {M : g_M} {pc d L : Nat} {xs : Nat → Int32} {lsA : Array Slot} {b sz : Nat} {D : va_G} {dA : Nat → ClassId} {σ : List g_Ce}
theorem g_callW {r : Option Value} {σ' : List g_Ce} {a : Array Value} {mc ms : Nat} {st0 rest : List Value} (hr : va_Run p l e R s m args below meth c H locs cells slots mc ms (F0 m pc lsA st0) rest (g_Qc D b sz dA r σ' a) (g_A sz)) (hS : va_S (g_A sz) s.heap H locs)
    (kk : ∀ (H1 : Heap) (locs1 : List Loc), g_Hp D b sz dA σ' H1 → va_S (g_A sz) s.heap H1 locs1 → W p l e R s m args below meth c H1 locs1 (cells + mc) (slots + ms) Q (F0 m (pc + 3) lsA ((r.map (g_cv b sz)).toList ++ rest))) : W p l e R s m args below meth c H locs cells slots Q (F0 m pc lsA st0) := by
  intro T hT X
  obtain ⟨v, st₀, t, T', L, h0, X', hL, e1, e2, ⟨hv, hp, hz, hk⟩, st⟩ := hr T hT X
  cases hv
  rw [h0] at hz hk
  obtain ⟨t2, a1, b1⟩ := kk T'.heap (locs ++ L) (by rw [e1]; exact hp)
    ⟨Nat.le_trans hS.1 (by rw [e1]; exact hz), fun q h1 h2 => by rw [e1, hk q (Nat.lt_of_lt_of_le h1 hS.1) h2]; exact hS.2.1 q h1 h2, fun q hq => by
      rcases List.mem_append.mp hq with h | h
      · exact hS.2.2 q h
      · exact hL q h⟩ T' rfl X'
  exact ⟨t2, st t2 a1, b1⟩
theorem g_X_moved {U : State} (hX : va_X b L xs s s.heap) (hbs : b < sz) (hsz : sz ≤ s.heap.size) (hS : va_S (g_A sz) s.heap H locs) (hU : U.heap = H) (hW : s.WarmedH U.vm) : va_X b L xs U U.heap := by
  obtain ⟨scr, h1, h2, h3, h4, h5⟩ := hX
  exact ⟨scr, by rw [hU, hS.2.1 b (Nat.lt_of_lt_of_le hbs hsz) (show ¬ sz ≤ b by omega)]; exact h1, State.isArrayOf_alike hW.alike h2, h3, h4, h5⟩
theorem g_blind (as : List Value) (σ : List g_Ce) : FrameBlind (g_Pc D b sz dA L xs as σ) := by
  intro a U g mk q
  obtain ⟨q0, q1, ⟨q2, q3, q4⟩, q5, q6⟩ := q
  refine ⟨q0, q1, ⟨va_K.moved (u := U) (U := U.calling g mk a) (Vm.Alike.refl U.vm) q2, g_Nw_same (s := U) (U := U.calling g mk a) rfl q3, va_AO.moved (u := U) (U := U.calling g mk a) (Vm.Alike.refl U.vm) q4⟩, ?_, g_Str_same (s := U) (U := U.calling g mk a) q6 rfl rfl⟩
  obtain ⟨scr, h1, h2, h3, h4, h5⟩ := q5
  exact ⟨scr, h1, State.isArrayOf_alike (s := U) (T := U.calling g mk a) (Vm.Alike.refl U.vm) h2, h3, h4, h5⟩
theorem g_preS {as : List Value} (hSt : g_St D dA s) (hX : va_X b L xs s s.heap) (hbs : b < sz) (hsz : sz ≤ s.heap.size) (hStr : g_Str sz s) (hH : g_Hp D b sz dA σ H) (hS : va_S (g_A sz) s.heap H locs) : PreS s H (g_Pc D b sz dA L xs as σ) (as.map (g_cv b sz)) :=
  ⟨g_blind as σ, fun U hU hW => ⟨rfl, by rw [hU]; exact hH, g_St_warm hW hSt, g_X_moved hX hbs hsz hS hU hW, g_Str_mv hStr hS hU hW⟩⟩
end GC
end Prt09
section Prt09b
/-! String.indexOf(I) over the one constant: the JDK's own rows -/
theorem j_in3 {w : Cond} {j : Nat} (h1 : tables_1_3[j]? = some w) (h2 : goodWord w = true) : w ∈ g_wk := List.mem_filter.mpr ⟨by
  unfold lw_tbl tables_1
  exact List.mem_append_right _ (List.mem_append_right _ (List.mem_append_right _ (List.mem_append_left _ (List.mem_of_getElem? h1)))), h2⟩
theorem j_in1 {w : Cond} {j : Nat} (h1 : tables_1_1[j]? = some w) (h2 : goodWord w = true) : w ∈ g_wk := List.mem_filter.mpr ⟨by
  unfold lw_tbl tables_1
  exact List.mem_append_right _ (List.mem_append_left _ (List.mem_of_getElem? h1)), h2⟩
theorem j_in9 {w : Cond} {j : Nat} (h1 : tables_1_9[j]? = some w) (h2 : goodWord w = true) : w ∈ g_wk := List.mem_filter.mpr ⟨by
  unfold lw_tbl tables_1
  exact List.mem_append_right _ (List.mem_append_right _ (List.mem_append_right _ (List.mem_append_right _ (List.mem_append_right _ (List.mem_append_right _ (List.mem_append_right _ (List.mem_append_right _ (List.mem_append_right _ (List.mem_of_getElem? h1))))))))), h2⟩
noncomputable def j_ws (y : MethodName) (cc : ByteArray) (n : Nat) (ret : Option FieldType) : List Cond := Cond.code y cc n ret :: g_wk
theorem j_good {y : MethodName} {cc : ByteArray} {n : Nat} {ret : Option FieldType} (h : Cond.code y cc n ret ∈ g_wk) : GoodIn g_wk (j_ws y cc n ret) := by
  have k : ∀ w ∈ g_wk, w ∈ g_wk ∧ ((w.onTables && w.keeps) = true ∨ ∃ ty, w = .arrayClass ty) := fun w hw => ⟨hw, good_of_word (List.mem_filter.mp hw).2⟩
  intro w hw
  rcases List.mem_cons.mp hw with rfl | hw
  · exact k _ h
  · exact k w hw
noncomputable def j_Pc (sz kA vA : Nat) (as : List Value) : Array Value → State → Prop := va_Pc as (fun U => j_B sz kA vA U)
noncomputable def j_Qc (v : Int32) : Array Value → State → Outcome → State → Prop := fun _ st oc t => oc = .returned (some (.int v)) ∧ t.heap = st.heap
theorem j_blind (sz kA vA : Nat) (as : List Value) : FrameBlind (j_Pc sz kA vA as) := fun a U g mk q => ⟨q.1, j_B_same (s := U) (U := U.calling g mk a) q.2 rfl rfl⟩
section JC
variable {p : Program} {l : Launch} {e : Env} {R : Room} {s : State} {m : MethodId} {args : Array Value} {below : List Frame} {meth : Method} {c : Code} {H : Heap} {locs : List Loc} {cells slots : Nat} {Q : State → Prop}
theorem j_pre {sz kA vA : Nat} {as : List Value} (hJ : j_B sz kA vA s) (hS : va_S (g_A sz) s.heap H locs) : PreS s H (j_Pc sz kA vA as) as := ⟨j_blind sz kA vA as, fun U hU hW => ⟨rfl, j_B_mv hJ hS hU hW.alike⟩⟩
theorem j_preV {sz kA vA : Nat} {as : List Value} (hJ : j_B sz kA vA s) (hS : va_S (g_A sz) s.heap H locs) : PreV s H "java/lang/String" kA (j_Pc sz kA vA (.ref kA :: as)) as := by
  refine ⟨j_blind sz kA vA _, ?_, (j_pre hJ hS).2⟩
  obtain ⟨cell, h1, h2, h3, -⟩ := hJ.1.kept hS.2.1
  exact ⟨cell, h1, h2, h3⟩
theorem j_callW {v : Int32} {a : Array Value} {pc sz : Nat} {lsA : Array Slot} {st0 rest : List Value} (hr : va_Run p l e R s m args below meth c H locs cells slots 0 0 (F0 m pc lsA st0) rest (j_Qc v a) (g_A sz)) (hS : va_S (g_A sz) s.heap H locs)
    (kk : ∀ locs1 : List Loc, va_S (g_A sz) s.heap H locs1 → W p l e R s m args below meth c H locs1 cells slots Q (F0 m (pc + 3) lsA (.int v :: rest))) : W p l e R s m args below meth c H locs cells slots Q (F0 m pc lsA st0) := by
  intro T hT X
  obtain ⟨v', st₀, t, T', L, h0, X', hL, e1, e2, ⟨hv, hp⟩, st⟩ := hr T hT X
  cases hv
  have hH : T'.heap = H := by rw [e1, hp, h0]
  obtain ⟨t2, a1, b1⟩ := kk (locs ++ L) ⟨hS.1, hS.2.1, fun q hq => by
      rcases List.mem_append.mp hq with h | h
      · exact hS.2.2 q h
      · exact hL q h⟩ T' hH X'
  exact ⟨t2, st t2 a1, b1⟩
end JC
set_option maxHeartbeats 1000000 in
theorem j_isLatin1 {l : Launch} {sz kA vA : Nat} : Met l yJ0_isLatin1_aae02 (j_ws yJ0_isLatin1_aae02 cJ0_isLatin1_aae02 1 (some .boolean)) (g_rmd 0 0 0) (j_Pc sz kA vA [.ref kA]) (j_Qc 1) 0 0 (g_A sz) := by
  refine Met.ofW (cc := cJ0_isLatin1_aae02) (maxL := 1) (ret := some .boolean) (by decide) rfl ?_
  intro p e s m args below meth c s₁ B hml hv
  obtain ⟨rfl, hJ⟩ := hv
  have hts0 := atoms_spec (ws := j_ws yJ0_isLatin1_aae02 cJ0_isLatin1_aae02 1 (some .boolean)) B.pre
  have hts : ∀ w ∈ g_wk, w.before ([.ref kA] : List Value).toArray s = true := fun w hw => hts0 w (List.mem_cons_of_mem _ hw)
  have hown : s.vm.findClass RJ0 = some m.cls := findClass_of_methodNamed B.named
  have hl := lv_entry ([.ref kA] : List Value) (n := 1) (Nat.le_of_ble_eq_true rfl)
  rw [lg_entry_eq]
  generalize (lg_sl [.ref kA] ++ List.replicate (1 - (lg_sl [.ref kA]).length) Slot.unset).toArray = ls at hl ⊢
  have hl : lv_has ls 1 (lv_args 0 [.ref kA]) := hl
  have hCF : CallFix p m c cJ0_isLatin1_aae02 1 s ([.ref kA] : List Value).toArray g_wk RJ0 := ⟨B.exec, B.bytes, hml, hown, hts⟩
  have hS : va_S (g_A sz) s.heap s.heap [] := va_S.rf
  refine va_gets B.exec B.bytes hJ.2.2.2.2 hS hown (hts _ (j_in3 (j := 133) rfl rfl)) (fun _ h => h) (show decode cJ0_isLatin1_aae02 0 = .ok (.getstatic 38, 3) by decide +kernel) ?_
  refine lv_if_eq B.exec B.bytes (show decode cJ0_isLatin1_aae02 3 = .ok (.ifCond .eq 14, 3) by decide +kernel) (tgt := 17) rfl (fun h => ?_) (fun h => ?_)
  · exact absurd h (by decide)
  · skip
    refine lv_aload_n B.exec B.bytes (show decode cJ0_isLatin1_aae02 6 = .ok (.aload_n 0, 1) by decide +kernel) rfl (lv_at hl 0 rfl) ?_
    refine vk_getf B.exec B.bytes hJ.2.1 hS hown (hts _ (j_in9 (j := 204) rfl rfl)) (fun _ h => h) (show decode cJ0_isLatin1_aae02 7 = .ok (.getfield 15, 3) by decide +kernel) ?_
    refine lv_if_ne B.exec B.bytes (show decode cJ0_isLatin1_aae02 10 = .ok (.ifCond .ne 7, 3) by decide +kernel) (tgt := 17) rfl (fun h => ?_) (fun h => ?_)
    · exact absurd rfl h
    · skip
      refine lv_iconst B.exec B.bytes (show decode cJ0_isLatin1_aae02 13 = .ok (.iconst 1, 1) by decide +kernel) rfl ?_
      refine lv_goto B.exec B.bytes (show decode cJ0_isLatin1_aae02 14 = .ok (.goto 4, 3) by decide +kernel) (tgt := 18) rfl ?_
      exact W.zret B.exec B.bytes B.returns rfl (fun t ht hW => ⟨rfl, ht⟩) hS.2.2 (show decode cJ0_isLatin1_aae02 18 = .ok (.ireturn, 1) by decide +kernel) B.notSynchronized
set_option maxHeartbeats 1000000 in
theorem j_coder {l : Launch} {sz kA vA : Nat} : Met l yJ0_coder_7d493 (j_ws yJ0_coder_7d493 cJ0_coder_7d493 1 (some .byte)) (g_rmd 0 0 0) (j_Pc sz kA vA [.ref kA]) (j_Qc 0) 0 0 (g_A sz) := by
  refine Met.ofW (cc := cJ0_coder_7d493) (maxL := 1) (ret := some .byte) (by decide) rfl ?_
  intro p e s m args below meth c s₁ B hml hv
  obtain ⟨rfl, hJ⟩ := hv
  have hts0 := atoms_spec (ws := j_ws yJ0_coder_7d493 cJ0_coder_7d493 1 (some .byte)) B.pre
  have hts : ∀ w ∈ g_wk, w.before ([.ref kA] : List Value).toArray s = true := fun w hw => hts0 w (List.mem_cons_of_mem _ hw)
  have hown : s.vm.findClass RJ0 = some m.cls := findClass_of_methodNamed B.named
  have hl := lv_entry ([.ref kA] : List Value) (n := 1) (Nat.le_of_ble_eq_true rfl)
  rw [lg_entry_eq]
  generalize (lg_sl [.ref kA] ++ List.replicate (1 - (lg_sl [.ref kA]).length) Slot.unset).toArray = ls at hl ⊢
  have hl : lv_has ls 1 (lv_args 0 [.ref kA]) := hl
  have hCF : CallFix p m c cJ0_coder_7d493 1 s ([.ref kA] : List Value).toArray g_wk RJ0 := ⟨B.exec, B.bytes, hml, hown, hts⟩
  have hS : va_S (g_A sz) s.heap s.heap [] := va_S.rf
  refine va_gets B.exec B.bytes hJ.2.2.2.2 hS hown (hts _ (j_in3 (j := 133) rfl rfl)) (fun _ h => h) (show decode cJ0_coder_7d493 0 = .ok (.getstatic 38, 3) by decide +kernel) ?_
  refine lv_if_eq B.exec B.bytes (show decode cJ0_coder_7d493 3 = .ok (.ifCond .eq 10, 3) by decide +kernel) (tgt := 13) rfl (fun h => ?_) (fun h => ?_)
  · exact absurd h (by decide)
  · skip
    refine lv_aload_n B.exec B.bytes (show decode cJ0_coder_7d493 6 = .ok (.aload_n 0, 1) by decide +kernel) rfl (lv_at hl 0 rfl) ?_
    refine vk_getf B.exec B.bytes hJ.2.1 hS hown (hts _ (j_in9 (j := 204) rfl rfl)) (fun _ h => h) (show decode cJ0_coder_7d493 7 = .ok (.getfield 15, 3) by decide +kernel) ?_
    refine lv_goto B.exec B.bytes (show decode cJ0_coder_7d493 10 = .ok (.goto 4, 3) by decide +kernel) (tgt := 14) rfl ?_
    exact W.zret B.exec B.bytes B.returns rfl (fun t ht hW => ⟨rfl, ht⟩) hS.2.2 (show decode cJ0_coder_7d493 14 = .ok (.ireturn, 1) by decide +kernel) B.notSynchronized
set_option maxHeartbeats 1000000 in
theorem j_length {l : Launch} {sz kA vA : Nat} : Met l yJ0_length_8abf5 (j_ws yJ0_length_8abf5 cJ0_length_8abf5 1 (some .int)) (g_rmd 1 0 0) (j_Pc sz kA vA [.ref kA]) (j_Qc 15) 0 0 (g_A sz) := by
  refine Met.ofW (cc := cJ0_length_8abf5) (maxL := 1) (ret := some .int) (by decide) rfl ?_
  intro p e s m args below meth c s₁ B hml hv
  obtain ⟨rfl, hJ⟩ := hv
  have hts0 := atoms_spec (ws := j_ws yJ0_length_8abf5 cJ0_length_8abf5 1 (some .int)) B.pre
  have hts : ∀ w ∈ g_wk, w.before ([.ref kA] : List Value).toArray s = true := fun w hw => hts0 w (List.mem_cons_of_mem _ hw)
  have hown : s.vm.findClass RJ0 = some m.cls := findClass_of_methodNamed B.named
  have hl := lv_entry ([.ref kA] : List Value) (n := 1) (Nat.le_of_ble_eq_true rfl)
  rw [lg_entry_eq]
  generalize (lg_sl [.ref kA] ++ List.replicate (1 - (lg_sl [.ref kA]).length) Slot.unset).toArray = ls at hl ⊢
  have hl : lv_has ls 1 (lv_args 0 [.ref kA]) := hl
  have hCF : CallFix p m c cJ0_length_8abf5 1 s ([.ref kA] : List Value).toArray g_wk RJ0 := ⟨B.exec, B.bytes, hml, hown, hts⟩
  have hS : va_S (g_A sz) s.heap s.heap [] := va_S.rf
  refine lv_aload_n B.exec B.bytes (show decode cJ0_length_8abf5 0 = .ok (.aload_n 0, 1) by decide +kernel) rfl (lv_at hl 0 rfl) ?_
  refine vk_getf B.exec B.bytes hJ.2.2.1 hS hown (hts _ (j_in9 (j := 205) rfl rfl)) (fun _ h => h) (show decode cJ0_length_8abf5 1 = .ok (.getfield 9, 3) by decide +kernel) ?_
  refine va_tlen B.exec B.bytes hJ.2.2.2.1 hS (v := 15) rfl (show decode cJ0_length_8abf5 4 = .ok (.arraylength, 1) by decide +kernel) ?_
  refine lv_aload_n B.exec B.bytes (show decode cJ0_length_8abf5 5 = .ok (.aload_n 0, 1) by decide +kernel) rfl (lv_at hl 0 rfl) ?_
  refine j_callW (va_runV (C := "java/lang/String") (b := kA) (As := []) (rest := [.int 15]) hCF (j_coder (l := l) (sz := sz) (kA := kA) (vA := vA)) ⟨callB_of 0 hts (j_good (j_in3 (j := 142) rfl rfl)) rfl rfl rfl (hts _ (j_in1 (j := 15) rfl rfl)) (hts _ (j_in3 (j := 139) rfl rfl)) (by decide) ⟨Nat.le_of_ble_eq_true rfl, Nat.le_of_ble_eq_true rfl⟩, hts _ (j_in3 (j := 140) rfl rfl), hts _ (j_in3 (j := 141) rfl rfl)⟩ (j_preV hJ hS) rfl rfl hl.1 rfl (lv_room (Nat.le_of_ble_eq_true rfl)) (show decode cJ0_length_8abf5 6 = .ok (.invokevirtual 335, 3) by decide +kernel) ⟨Nat.le_of_ble_eq_true rfl, Nat.le_of_ble_eq_true rfl⟩) hS (fun locs6 hS6 => ?_)
  refine lv_ishr B.exec B.bytes (show decode cJ0_length_8abf5 9 = .ok (.ishr, 1) by decide +kernel) ?_
  exact W.iret B.exec B.bytes B.returns (fun t ht hW => ⟨rfl, ht⟩) hS6.2.2 (show decode cJ0_length_8abf5 10 = .ok (.ireturn, 1) by decide +kernel) B.notSynchronized
noncomputable def j_ce (c : Int32) : Int32 := if c < 0 then 0 else if 255 < c then 0 else 1
set_option maxHeartbeats 1000000 in
theorem j_canEncode {l : Launch} {sz kA vA : Nat} (c : Int32) : Met l yJ1_canEncode_9a6ad (j_ws yJ1_canEncode_9a6ad cJ1_canEncode_9a6ad 1 (some .boolean)) (g_rmd 0 0 0) (j_Pc sz kA vA [.int c]) (j_Qc (j_ce c)) 0 0 (g_A sz) := by
  refine Met.ofW (cc := cJ1_canEncode_9a6ad) (maxL := 1) (ret := some .boolean) (by decide) rfl ?_
  intro p e s m args below meth c9 s₁ B hml hv
  obtain ⟨rfl, hJ⟩ := hv
  have hts0 := atoms_spec (ws := j_ws yJ1_canEncode_9a6ad cJ1_canEncode_9a6ad 1 (some .boolean)) B.pre
  have hts : ∀ w ∈ g_wk, w.before ([.int c] : List Value).toArray s = true := fun w hw => hts0 w (List.mem_cons_of_mem _ hw)
  have hown : s.vm.findClass RJ1 = some m.cls := findClass_of_methodNamed B.named
  have hl := lv_entry ([.int c] : List Value) (n := 1) (Nat.le_of_ble_eq_true rfl)
  rw [lg_entry_eq]
  generalize (lg_sl [.int c] ++ List.replicate (1 - (lg_sl [.int c]).length) Slot.unset).toArray = ls at hl ⊢
  have hl : lv_has ls 1 (lv_args 0 [.int c]) := hl
  have hCF : CallFix p m c9 cJ1_canEncode_9a6ad 1 s ([.int c] : List Value).toArray g_wk RJ1 := ⟨B.exec, B.bytes, hml, hown, hts⟩
  have hS : va_S (g_A sz) s.heap s.heap [] := va_S.rf
  refine lv_iload_n B.exec B.bytes (show decode cJ1_canEncode_9a6ad 0 = .ok (.iload_n 0, 1) by decide +kernel) rfl (lv_at hl 0 rfl) ?_
  refine lv_if_lt B.exec B.bytes (show decode cJ1_canEncode_9a6ad 1 = .ok (.ifCond .lt 14, 3) by decide +kernel) (tgt := 15) rfl (fun h1 => ?_) (fun h1 => ?_)
  · have e : j_ce c = 0 := if_pos h1
    rw [e]
    refine lv_iconst B.exec B.bytes (show decode cJ1_canEncode_9a6ad 15 = .ok (.iconst 0, 1) by decide +kernel) rfl ?_
    exact W.zret B.exec B.bytes B.returns rfl (fun t ht hW => ⟨rfl, ht⟩) hS.2.2 (show decode cJ1_canEncode_9a6ad 16 = .ok (.ireturn, 1) by decide +kernel) B.notSynchronized
  · skip
    refine lv_iload_n B.exec B.bytes (show decode cJ1_canEncode_9a6ad 4 = .ok (.iload_n 0, 1) by decide +kernel) rfl (lv_at hl 0 rfl) ?_
    refine lv_sipush B.exec B.bytes (show decode cJ1_canEncode_9a6ad 5 = .ok (.sipush 255, 3) by decide +kernel) (v := 255) rfl ?_
    refine lv_icmp_gt B.exec B.bytes (show decode cJ1_canEncode_9a6ad 8 = .ok (.if_icmp .gt 7, 3) by decide +kernel) (tgt := 15) rfl (fun h2 => ?_) (fun h2 => ?_)
    · have e : j_ce c = 0 := by
        unfold j_ce
        rw [if_neg h1, if_pos h2]
      rw [e]
      refine lv_iconst B.exec B.bytes (show decode cJ1_canEncode_9a6ad 15 = .ok (.iconst 0, 1) by decide +kernel) rfl ?_
      exact W.zret B.exec B.bytes B.returns rfl (fun t ht hW => ⟨rfl, ht⟩) hS.2.2 (show decode cJ1_canEncode_9a6ad 16 = .ok (.ireturn, 1) by decide +kernel) B.notSynchronized
    · have e : j_ce c = 1 := by
        unfold j_ce
        rw [if_neg h1, if_neg h2]
      rw [e]
      refine lv_iconst B.exec B.bytes (show decode cJ1_canEncode_9a6ad 11 = .ok (.iconst 1, 1) by decide +kernel) rfl ?_
      refine lv_goto B.exec B.bytes (show decode cJ1_canEncode_9a6ad 12 = .ok (.goto 4, 3) by decide +kernel) (tgt := 16) rfl ?_
      exact W.zret B.exec B.bytes B.returns rfl (fun t ht hW => ⟨rfl, ht⟩) hS.2.2 (show decode cJ1_canEncode_9a6ad 16 = .ok (.ireturn, 1) by decide +kernel) B.notSynchronized
noncomputable def j_ix (cb : Int32) : List Int32 → Nat → Int32
  | [], _ => -1
  | b :: l, k => if b = cb then Int32.ofNat k else j_ix cb l (k + 1)
set_option maxHeartbeats 1000000 in
theorem j_loop {p : Program} {l : Launch} {e : Env} {R : Room} {s : State} {m : MethodId} {args : Array Value} {below : List Frame} {meth : Method} {c : Code} {H : Heap} {locs : List Loc} {cells slots : Nat} {Qc : Array Value → State → Outcome → State → Prop} {free : Addr → Prop} {sz vA : Nat} (hx : p.tables.exec = Jvm.exec) (hb : c.code = cJ1_indexOfChar_4cfef) (hr : meth.sig.returnType = some .int) (hlocks : meth.locks = false) (hT : va_T .byte vA 15 (fun j => .int (j_by.getD j 0)) (g_A sz) s s.heap) (hS : va_S (g_A sz) s.heap H locs) (hf : ∀ q ∈ locs, free q.base) {x cb z3 : Int32} :
    ∀ (r : List Int32) (k : Nat) (ls : Array Slot), k + r.length = 15 → j_by.drop k = r → lv_has ls 6 [(5, .int (Int32.ofNat k)), (4, .int cb), (0, .ref vA), (1, .int x), (2, .int z3), (3, .int 15)] → (∀ t : State, t.heap = H → s.WarmedH t.vm → Qc args s (.returned (some (.int (j_ix cb r k)))) t) → W p l e R s m args below meth c H locs cells slots (MQ below Qc args s cells slots free) (F0 m 7 ls []) := by
  intro r
  induction r with
  | nil =>
    intro k ls hk hd hl hq
    have hk : k = 15 := by simpa using hk
    subst hk
    refine lv_iload hx hb (show decode cJ1_indexOfChar_4cfef 7 = .ok (.iload 5, 2) by decide +kernel) (lv_at hl 0 rfl) ?_
    refine lv_iload_n hx hb (show decode cJ1_indexOfChar_4cfef 9 = .ok (.iload_n 3, 1) by decide +kernel) rfl (lv_at hl 5 rfl) ?_
    refine lv_icmp_ge hx hb (show decode cJ1_indexOfChar_4cfef 10 = .ok (.if_icmp .ge 21, 3) by decide +kernel) (tgt := 31) rfl (fun h => ?_) (fun h => absurd (by decide) h)
    refine lv_iconst hx hb (show decode cJ1_indexOfChar_4cfef 31 = .ok (.iconst (-1), 1) by decide +kernel) rfl ?_
    exact W.iret hx hb hr hq hf (show decode cJ1_indexOfChar_4cfef 32 = .ok (.ireturn, 1) by decide +kernel) hlocks
  | cons b r ih =>
    intro k ls hk hd hl hq
    have hk15 : k < 15 := by simp at hk; omega
    have hbk : j_by.getD k 0 = b := by
      have h1 : j_by[k]? = some b := by
        have := congrArg List.head? hd
        simpa [List.head?_drop] using this
      simp [List.getD, h1]
    have hd2 : j_by.drop (k + 1) = r := by
      have := congrArg List.tail hd
      simpa [List.tail_drop] using this
    have ek : (Int32.ofNat k).toNatClampNeg = k := by
      show (Int32.ofNat k).toInt.toNat = k
      have : (Int32.ofNat k).toInt = (k : Int) := Int32.toInt_ofNat_of_lt (by omega)
      rw [this]
      omega
    have ekI : (Int32.ofNat k).toInt = (k : Int) := Int32.toInt_ofNat_of_lt (by omega)
    refine lv_iload hx hb (show decode cJ1_indexOfChar_4cfef 7 = .ok (.iload 5, 2) by decide +kernel) (lv_at hl 0 rfl) ?_
    refine lv_iload_n hx hb (show decode cJ1_indexOfChar_4cfef 9 = .ok (.iload_n 3, 1) by decide +kernel) rfl (lv_at hl 5 rfl) ?_
    refine lv_icmp_ge hx hb (show decode cJ1_indexOfChar_4cfef 10 = .ok (.if_icmp .ge 21, 3) by decide +kernel) (tgt := 31) rfl (fun h => ?_) (fun h => ?_)
    · exfalso
      have h := Int32.le_iff_toInt_le.mp h
      rw [ekI] at h
      have e15 : (15 : Int32).toInt = 15 := rfl
      omega
    · refine lv_aload_n hx hb (show decode cJ1_indexOfChar_4cfef 13 = .ok (.aload_n 0, 1) by decide +kernel) rfl (lv_at hl 2 rfl) ?_
      refine lv_iload hx hb (show decode cJ1_indexOfChar_4cfef 14 = .ok (.iload 5, 2) by decide +kernel) (lv_at hl 0 rfl) ?_
      refine va_tb hx hb hT hS (i := Int32.ofNat k) (v := .int b) ?_ ?_ (show decode cJ1_indexOfChar_4cfef 16 = .ok (.baload, 1) by decide +kernel) ?_
      · rintro (h | h)
        · have h := Int32.lt_iff_toInt_lt.mp h
          rw [ekI] at h
          have e0 : (0 : Int32).toInt = 0 := rfl
          omega
        · rw [ek] at h
          omega
      · show Value.int (j_by.getD (Int32.ofNat k).toNatClampNeg 0) = Value.int b
        rw [ek, hbk]
      · refine lv_iload hx hb (show decode cJ1_indexOfChar_4cfef 17 = .ok (.iload 4, 2) by decide +kernel) (lv_at hl 1 rfl) ?_
        refine lv_icmp_ne hx hb (show decode cJ1_indexOfChar_4cfef 19 = .ok (.if_icmp .ne 6, 3) by decide +kernel) (tgt := 25) rfl (fun h => ?_) (fun h => ?_)
        · have h9 : ¬ b = cb := fun e => h e
          refine lv_iinc hx hb (show decode cJ1_indexOfChar_4cfef 25 = .ok (.iinc 5 1, 3) by decide +kernel) hl (k := 0) rfl (v := Int32.ofNat (k + 1)) ?_ (by decide) rfl (fun ls' hl' => ?_)
          · show Int32.ofNat k + Int32.ofInt 1 = Int32.ofNat (k + 1)
            rw [Int32.ofNat_add]
            rfl
          · refine lv_goto hx hb (show decode cJ1_indexOfChar_4cfef 28 = .ok (.goto (-21), 3) by decide +kernel) (tgt := 7) rfl ?_
            refine ih (k + 1) ls' (by simp at hk; omega) hd2 hl' ?_
            have e : j_ix cb (b :: r) k = j_ix cb r (k + 1) := by
              show (if b = cb then Int32.ofNat k else j_ix cb r (k + 1)) = _
              rw [if_neg h9]
            rw [e] at hq
            exact hq
        · have h9 : b = cb := h
          refine lv_iload hx hb (show decode cJ1_indexOfChar_4cfef 22 = .ok (.iload 5, 2) by decide +kernel) (lv_at hl 0 rfl) ?_
          have e : j_ix cb (b :: r) k = Int32.ofNat k := by
            show (if b = cb then Int32.ofNat k else j_ix cb r (k + 1)) = _
            rw [if_pos h9]
          rw [e] at hq
          exact W.iret hx hb hr hq hf (show decode cJ1_indexOfChar_4cfef 24 = .ok (.ireturn, 1) by decide +kernel) hlocks
set_option maxHeartbeats 1000000 in
theorem j_indexOfChar {l : Launch} {sz kA vA : Nat} (x : Int32) : Met l yJ1_indexOfChar_4cfef (j_ws yJ1_indexOfChar_4cfef cJ1_indexOfChar_4cfef 6 (some .int)) (g_rmd 0 0 0) (j_Pc sz kA vA [.ref vA, .int x, .int 0, .int 15]) (j_Qc (j_ix x.toInt8.toInt32 j_by 0)) 0 0 (g_A sz) := by
  refine Met.ofW (cc := cJ1_indexOfChar_4cfef) (maxL := 6) (ret := some .int) (by decide) rfl ?_
  intro p e s m args below meth c s₁ B hml hv
  obtain ⟨rfl, hJ⟩ := hv
  have hts0 := atoms_spec (ws := j_ws yJ1_indexOfChar_4cfef cJ1_indexOfChar_4cfef 6 (some .int)) B.pre
  have hts : ∀ w ∈ g_wk, w.before ([.ref vA, .int x, .int 0, .int 15] : List Value).toArray s = true := fun w hw => hts0 w (List.mem_cons_of_mem _ hw)
  have hown : s.vm.findClass RJ1 = some m.cls := findClass_of_methodNamed B.named
  have hl := lv_entry ([.ref vA, .int x, .int 0, .int 15] : List Value) (n := 6) (Nat.le_of_ble_eq_true rfl)
  rw [lg_entry_eq]
  generalize (lg_sl [.ref vA, .int x, .int 0, .int 15] ++ List.replicate (6 - (lg_sl [.ref vA, .int x, .int 0, .int 15]).length) Slot.unset).toArray = ls at hl ⊢
  have hl : lv_has ls 6 (lv_args 0 [.ref vA, .int x, .int 0, .int 15]) := hl
  have hCF : CallFix p m c cJ1_indexOfChar_4cfef 6 s ([.ref vA, .int x, .int 0, .int 15] : List Value).toArray g_wk RJ1 := ⟨B.exec, B.bytes, hml, hown, hts⟩
  have hS : va_S (g_A sz) s.heap s.heap [] := va_S.rf
  refine lv_iload_n B.exec B.bytes (show decode cJ1_indexOfChar_4cfef 0 = .ok (.iload_n 1, 1) by decide +kernel) rfl (lv_at hl 1 rfl) ?_
  refine lv_i2b B.exec B.bytes (show decode cJ1_indexOfChar_4cfef 1 = .ok (.i2b, 1) by decide +kernel) rfl ?_
  refine lv_istore B.exec B.bytes (show decode cJ1_indexOfChar_4cfef 2 = .ok (.istore 4, 2) by decide +kernel) hl (by decide) rfl (fun ls1 hl1 => ?_)
  refine lv_iload_n B.exec B.bytes (show decode cJ1_indexOfChar_4cfef 4 = .ok (.iload_n 2, 1) by decide +kernel) rfl (lv_at hl1 3 rfl) ?_
  refine lv_istore B.exec B.bytes (show decode cJ1_indexOfChar_4cfef 5 = .ok (.istore 5, 2) by decide +kernel) hl1 (by decide) rfl (fun ls2 hl2 => ?_)
  exact j_loop B.exec B.bytes B.returns B.notSynchronized hJ.2.2.2.1 hS hS.2.2 j_by 0 ls2 rfl rfl hl2 (fun t ht hW => ⟨rfl, ht⟩)
noncomputable def j_lx (x : Int32) : Int32 := if j_ce x = 0 then -1 else j_ix x.toInt8.toInt32 j_by 0
set_option maxHeartbeats 1000000 in
theorem j_lIndexOf {l : Launch} {sz kA vA : Nat} (x : Int32) : Met l yJ1_indexOf_4cfef (j_ws yJ1_indexOf_4cfef cJ1_indexOf_4cfef 4 (some .int)) (g_rmd 1 0 0) (j_Pc sz kA vA [.ref vA, .int x, .int 0, .int 15]) (j_Qc (j_lx x)) 0 0 (g_A sz) := by
  refine Met.ofW (cc := cJ1_indexOf_4cfef) (maxL := 4) (ret := some .int) (by decide) rfl ?_
  intro p e s m args below meth c s₁ B hml hv
  obtain ⟨rfl, hJ⟩ := hv
  have hts0 := atoms_spec (ws := j_ws yJ1_indexOf_4cfef cJ1_indexOf_4cfef 4 (some .int)) B.pre
  have hts : ∀ w ∈ g_wk, w.before ([.ref vA, .int x, .int 0, .int 15] : List Value).toArray s = true := fun w hw => hts0 w (List.mem_cons_of_mem _ hw)
  have hown : s.vm.findClass RJ1 = some m.cls := findClass_of_methodNamed B.named
  have hl := lv_entry ([.ref vA, .int x, .int 0, .int 15] : List Value) (n := 4) (Nat.le_of_ble_eq_true rfl)
  rw [lg_entry_eq]
  generalize (lg_sl [.ref vA, .int x, .int 0, .int 15] ++ List.replicate (4 - (lg_sl [.ref vA, .int x, .int 0, .int 15]).length) Slot.unset).toArray = ls at hl ⊢
  have hl : lv_has ls 4 (lv_args 0 [.ref vA, .int x, .int 0, .int 15]) := hl
  have hCF : CallFix p m c cJ1_indexOf_4cfef 4 s ([.ref vA, .int x, .int 0, .int 15] : List Value).toArray g_wk RJ1 := ⟨B.exec, B.bytes, hml, hown, hts⟩
  have hS : va_S (g_A sz) s.heap s.heap [] := va_S.rf
  refine lv_iload_n B.exec B.bytes (show decode cJ1_indexOf_4cfef 0 = .ok (.iload_n 1, 1) by decide +kernel) rfl (lv_at hl 1 rfl) ?_
  refine j_callW (va_runS (As := [.int x]) (rest := []) hCF (j_canEncode (l := l) (sz := sz) (kA := kA) (vA := vA) x) ⟨callB_of 1 hts (j_good (j_in3 (j := 148) rfl rfl)) rfl rfl rfl (hts _ (j_in1 (j := 16) rfl rfl)) (hts _ (j_in3 (j := 146) rfl rfl)) (by decide) ⟨Nat.le_of_ble_eq_true rfl, Nat.le_of_ble_eq_true rfl⟩, hts _ (j_in3 (j := 147) rfl rfl)⟩ (j_pre hJ hS) rfl rfl hl.1 rfl (lv_room (Nat.le_of_ble_eq_true rfl)) (show decode cJ1_indexOf_4cfef 1 = .ok (.invokestatic 88, 3) by decide +kernel) ⟨Nat.le_of_ble_eq_true rfl, Nat.le_of_ble_eq_true rfl⟩) hS (fun locs1 hS1 => ?_)
  refine lv_if_ne B.exec B.bytes (show decode cJ1_indexOf_4cfef 4 = .ok (.ifCond .ne 5, 3) by decide +kernel) (tgt := 9) rfl (fun h4 => ?_) (fun h4 => ?_)
  · have e9 : j_lx x = j_ix x.toInt8.toInt32 j_by 0 := if_neg h4
    rw [e9]
    refine lv_iload_n B.exec B.bytes (show decode cJ1_indexOf_4cfef 9 = .ok (.iload_n 2, 1) by decide +kernel) rfl (lv_at hl 2 rfl) ?_
    refine lv_iconst B.exec B.bytes (show decode cJ1_indexOf_4cfef 10 = .ok (.iconst 0, 1) by decide +kernel) rfl ?_
    refine va_mmax B.exec B.bytes (hml.trans hl.1.symm) hown (hts _ (j_in3 (j := 149) rfl rfl)) (hts _ (j_in3 (j := 150) rfl rfl)) (hts _ (j_in1 (j := 17) rfl rfl)) (hts _ (j_in3 (j := 151) rfl rfl)) (Nat.le_of_ble_eq_true rfl) (Nat.le_of_ble_eq_true rfl) (Nat.le_of_ble_eq_true rfl) (Nat.le_of_ble_eq_true rfl) (show decode cJ1_indexOf_4cfef 11 = .ok (.invokestatic 92, 3) by decide +kernel) ?_
    refine lv_istore_n B.exec B.bytes (show decode cJ1_indexOf_4cfef 14 = .ok (.istore_n 2, 1) by decide +kernel) rfl hl (by decide) rfl (fun ls1 hl1 => ?_)
    refine lv_iload_n B.exec B.bytes (show decode cJ1_indexOf_4cfef 15 = .ok (.iload_n 3, 1) by decide +kernel) rfl (lv_at hl1 3 rfl) ?_
    refine lv_aload_n B.exec B.bytes (show decode cJ1_indexOf_4cfef 16 = .ok (.aload_n 0, 1) by decide +kernel) rfl (lv_at hl1 1 rfl) ?_
    refine va_tlen B.exec B.bytes hJ.2.2.2.1 hS1 (v := 15) rfl (show decode cJ1_indexOf_4cfef 17 = .ok (.arraylength, 1) by decide +kernel) ?_
    refine va_mmin B.exec B.bytes (hml.trans hl1.1.symm) hown (hts _ (j_in3 (j := 152) rfl rfl)) (hts _ (j_in3 (j := 153) rfl rfl)) (hts _ (j_in1 (j := 17) rfl rfl)) (hts _ (j_in3 (j := 154) rfl rfl)) (Nat.le_of_ble_eq_true rfl) (Nat.le_of_ble_eq_true rfl) (Nat.le_of_ble_eq_true rfl) (Nat.le_of_ble_eq_true rfl) (show decode cJ1_indexOf_4cfef 18 = .ok (.invokestatic 38, 3) by decide +kernel) ?_
    refine lv_istore_n B.exec B.bytes (show decode cJ1_indexOf_4cfef 21 = .ok (.istore_n 3, 1) by decide +kernel) rfl hl1 (by decide) rfl (fun ls2 hl2 => ?_)
    have hl2 : lv_has ls2 4 [(3, .int 15), (2, .int 0), (0, .ref vA), (1, .int x)] := hl2
    refine lv_iload_n B.exec B.bytes (show decode cJ1_indexOf_4cfef 22 = .ok (.iload_n 2, 1) by decide +kernel) rfl (lv_at hl2 1 rfl) ?_
    refine lv_iload_n B.exec B.bytes (show decode cJ1_indexOf_4cfef 23 = .ok (.iload_n 3, 1) by decide +kernel) rfl (lv_at hl2 0 rfl) ?_
    refine lv_icmp_lt B.exec B.bytes (show decode cJ1_indexOf_4cfef 24 = .ok (.if_icmp .lt 5, 3) by decide +kernel) (tgt := 29) rfl (fun h24 => ?_) (fun h24 => ?_)
    · skip
      refine lv_aload_n B.exec B.bytes (show decode cJ1_indexOf_4cfef 29 = .ok (.aload_n 0, 1) by decide +kernel) rfl (lv_at hl2 2 rfl) ?_
      refine lv_iload_n B.exec B.bytes (show decode cJ1_indexOf_4cfef 30 = .ok (.iload_n 1, 1) by decide +kernel) rfl (lv_at hl2 3 rfl) ?_
      refine lv_iload_n B.exec B.bytes (show decode cJ1_indexOf_4cfef 31 = .ok (.iload_n 2, 1) by decide +kernel) rfl (lv_at hl2 1 rfl) ?_
      refine lv_iload_n B.exec B.bytes (show decode cJ1_indexOf_4cfef 32 = .ok (.iload_n 3, 1) by decide +kernel) rfl (lv_at hl2 0 rfl) ?_
      refine j_callW (va_runS (As := [.ref vA, .int x, .int 0, .int 15]) (rest := []) hCF (j_indexOfChar (l := l) (sz := sz) (kA := kA) (vA := vA) x) ⟨callB_of 4 hts (j_good (j_in3 (j := 157) rfl rfl)) rfl rfl rfl (hts _ (j_in1 (j := 16) rfl rfl)) (hts _ (j_in3 (j := 155) rfl rfl)) (by decide) ⟨Nat.le_of_ble_eq_true rfl, Nat.le_of_ble_eq_true rfl⟩, hts _ (j_in3 (j := 156) rfl rfl)⟩ (j_pre hJ hS1) rfl rfl hl2.1 rfl (lv_room (Nat.le_of_ble_eq_true rfl)) (show decode cJ1_indexOf_4cfef 33 = .ok (.invokestatic 95, 3) by decide +kernel) ⟨Nat.le_of_ble_eq_true rfl, Nat.le_of_ble_eq_true rfl⟩) hS1 (fun locs33 hS33 => ?_)
      exact W.iret B.exec B.bytes B.returns (fun t ht hW => ⟨rfl, ht⟩) hS33.2.2 (show decode cJ1_indexOf_4cfef 36 = .ok (.ireturn, 1) by decide +kernel) B.notSynchronized
    · exact absurd (by decide) h24
  · have e9 : j_lx x = -1 := if_pos h4
    rw [e9]
    refine lv_iconst B.exec B.bytes (show decode cJ1_indexOf_4cfef 7 = .ok (.iconst (-1), 1) by decide +kernel) rfl ?_
    exact W.iret B.exec B.bytes B.returns (fun t ht hW => ⟨rfl, ht⟩) hS1.2.2 (show decode cJ1_indexOf_4cfef 8 = .ok (.ireturn, 1) by decide +kernel) B.notSynchronized
set_option maxHeartbeats 1000000 in
theorem j_indexOf2 {l : Launch} {sz kA vA : Nat} (x : Int32) : Met l yJ0_indexOf_7cf53 (j_ws yJ0_indexOf_7cf53 cJ0_indexOf_7cf53 3 (some .int)) (g_rmd 2 0 0) (j_Pc sz kA vA [.ref kA, .int x, .int 0]) (j_Qc (j_lx x)) 0 0 (g_A sz) := by
  refine Met.ofW (cc := cJ0_indexOf_7cf53) (maxL := 3) (ret := some .int) (by decide) rfl ?_
  intro p e s m args below meth c s₁ B hml hv
  obtain ⟨rfl, hJ⟩ := hv
  have hts0 := atoms_spec (ws := j_ws yJ0_indexOf_7cf53 cJ0_indexOf_7cf53 3 (some .int)) B.pre
  have hts : ∀ w ∈ g_wk, w.before ([.ref kA, .int x, .int 0] : List Value).toArray s = true := fun w hw => hts0 w (List.mem_cons_of_mem _ hw)
  have hown : s.vm.findClass RJ0 = some m.cls := findClass_of_methodNamed B.named
  have hl := lv_entry ([.ref kA, .int x, .int 0] : List Value) (n := 3) (Nat.le_of_ble_eq_true rfl)
  rw [lg_entry_eq]
  generalize (lg_sl [.ref kA, .int x, .int 0] ++ List.replicate (3 - (lg_sl [.ref kA, .int x, .int 0]).length) Slot.unset).toArray = ls at hl ⊢
  have hl : lv_has ls 3 (lv_args 0 [.ref kA, .int x, .int 0]) := hl
  have hCF : CallFix p m c cJ0_indexOf_7cf53 3 s ([.ref kA, .int x, .int 0] : List Value).toArray g_wk RJ0 := ⟨B.exec, B.bytes, hml, hown, hts⟩
  have hS : va_S (g_A sz) s.heap s.heap [] := va_S.rf
  refine lv_aload_n B.exec B.bytes (show decode cJ0_indexOf_7cf53 0 = .ok (.aload_n 0, 1) by decide +kernel) rfl (lv_at hl 0 rfl) ?_
  refine j_callW (va_runV (C := "java/lang/String") (b := kA) (As := []) (rest := []) hCF (j_isLatin1 (l := l) (sz := sz) (kA := kA) (vA := vA)) ⟨callB_of 0 hts (j_good (j_in3 (j := 132) rfl rfl)) rfl rfl rfl (hts _ (j_in1 (j := 15) rfl rfl)) (hts _ (j_in3 (j := 129) rfl rfl)) (by decide) ⟨Nat.le_of_ble_eq_true rfl, Nat.le_of_ble_eq_true rfl⟩, hts _ (j_in3 (j := 130) rfl rfl), hts _ (j_in3 (j := 131) rfl rfl)⟩ (j_preV hJ hS) rfl rfl hl.1 rfl (lv_room (Nat.le_of_ble_eq_true rfl)) (show decode cJ0_indexOf_7cf53 1 = .ok (.invokevirtual 492, 3) by decide +kernel) ⟨Nat.le_of_ble_eq_true rfl, Nat.le_of_ble_eq_true rfl⟩) hS (fun locs1 hS1 => ?_)
  refine lv_if_eq B.exec B.bytes (show decode cJ0_indexOf_7cf53 4 = .ok (.ifCond .eq 19, 3) by decide +kernel) (tgt := 23) rfl (fun h4 => ?_) (fun h4 => ?_)
  · exact absurd h4 (by decide)
  · skip
    refine lv_aload_n B.exec B.bytes (show decode cJ0_indexOf_7cf53 7 = .ok (.aload_n 0, 1) by decide +kernel) rfl (lv_at hl 0 rfl) ?_
    refine vk_getf B.exec B.bytes hJ.2.2.1 hS1 hown (hts _ (j_in9 (j := 205) rfl rfl)) (fun _ h => h) (show decode cJ0_indexOf_7cf53 8 = .ok (.getfield 9, 3) by decide +kernel) ?_
    refine lv_iload_n B.exec B.bytes (show decode cJ0_indexOf_7cf53 11 = .ok (.iload_n 1, 1) by decide +kernel) rfl (lv_at hl 1 rfl) ?_
    refine lv_iload_n B.exec B.bytes (show decode cJ0_indexOf_7cf53 12 = .ok (.iload_n 2, 1) by decide +kernel) rfl (lv_at hl 2 rfl) ?_
    refine lv_aload_n B.exec B.bytes (show decode cJ0_indexOf_7cf53 13 = .ok (.aload_n 0, 1) by decide +kernel) rfl (lv_at hl 0 rfl) ?_
    refine j_callW (va_runV (C := "java/lang/String") (b := kA) (As := []) (rest := [.int 0, .int x, .ref vA]) hCF (j_length (l := l) (sz := sz) (kA := kA) (vA := vA)) ⟨callB_of 0 hts (j_good (j_in3 (j := 138) rfl rfl)) rfl rfl rfl (hts _ (j_in1 (j := 15) rfl rfl)) (hts _ (j_in3 (j := 135) rfl rfl)) (by decide) ⟨Nat.le_of_ble_eq_true rfl, Nat.le_of_ble_eq_true rfl⟩, hts _ (j_in3 (j := 136) rfl rfl), hts _ (j_in3 (j := 137) rfl rfl)⟩ (j_preV hJ hS1) rfl rfl hl.1 rfl (lv_room (Nat.le_of_ble_eq_true rfl)) (show decode cJ0_indexOf_7cf53 14 = .ok (.invokevirtual 505, 3) by decide +kernel) ⟨Nat.le_of_ble_eq_true rfl, Nat.le_of_ble_eq_true rfl⟩) hS1 (fun locs14 hS14 => ?_)
    refine j_callW (va_runS (As := [.ref vA, .int x, .int 0, .int 15]) (rest := []) hCF (j_lIndexOf (l := l) (sz := sz) (kA := kA) (vA := vA) x) ⟨callB_of 4 hts (j_good (j_in3 (j := 145) rfl rfl)) rfl rfl rfl (hts _ (j_in1 (j := 16) rfl rfl)) (hts _ (j_in3 (j := 143) rfl rfl)) (by decide) ⟨Nat.le_of_ble_eq_true rfl, Nat.le_of_ble_eq_true rfl⟩, hts _ (j_in3 (j := 144) rfl rfl)⟩ (j_pre hJ hS14) rfl rfl hl.1 rfl (lv_room (Nat.le_of_ble_eq_true rfl)) (show decode cJ0_indexOf_7cf53 17 = .ok (.invokestatic 637, 3) by decide +kernel) ⟨Nat.le_of_ble_eq_true rfl, Nat.le_of_ble_eq_true rfl⟩) hS14 (fun locs17 hS17 => ?_)
    refine lv_goto B.exec B.bytes (show decode cJ0_indexOf_7cf53 20 = .ok (.goto 16, 3) by decide +kernel) (tgt := 36) rfl ?_
    exact W.iret B.exec B.bytes B.returns (fun t ht hW => ⟨rfl, ht⟩) hS17.2.2 (show decode cJ0_indexOf_7cf53 36 = .ok (.ireturn, 1) by decide +kernel) B.notSynchronized
set_option maxHeartbeats 1000000 in
theorem j_indexOf1 {l : Launch} {sz kA vA : Nat} (x : Int32) : Met l yJ0_indexOf_0f7a4 (j_ws yJ0_indexOf_0f7a4 cJ0_indexOf_0f7a4 2 (some .int)) (g_rmd 3 0 0) (j_Pc sz kA vA [.ref kA, .int x]) (j_Qc (j_lx x)) 0 0 (g_A sz) := by
  refine Met.ofW (cc := cJ0_indexOf_0f7a4) (maxL := 2) (ret := some .int) (by decide) rfl ?_
  intro p e s m args below meth c s₁ B hml hv
  obtain ⟨rfl, hJ⟩ := hv
  have hts0 := atoms_spec (ws := j_ws yJ0_indexOf_0f7a4 cJ0_indexOf_0f7a4 2 (some .int)) B.pre
  have hts : ∀ w ∈ g_wk, w.before ([.ref kA, .int x] : List Value).toArray s = true := fun w hw => hts0 w (List.mem_cons_of_mem _ hw)
  have hown : s.vm.findClass RJ0 = some m.cls := findClass_of_methodNamed B.named
  have hl := lv_entry ([.ref kA, .int x] : List Value) (n := 2) (Nat.le_of_ble_eq_true rfl)
  rw [lg_entry_eq]
  generalize (lg_sl [.ref kA, .int x] ++ List.replicate (2 - (lg_sl [.ref kA, .int x]).length) Slot.unset).toArray = ls at hl ⊢
  have hl : lv_has ls 2 (lv_args 0 [.ref kA, .int x]) := hl
  have hCF : CallFix p m c cJ0_indexOf_0f7a4 2 s ([.ref kA, .int x] : List Value).toArray g_wk RJ0 := ⟨B.exec, B.bytes, hml, hown, hts⟩
  have hS : va_S (g_A sz) s.heap s.heap [] := va_S.rf
  refine lv_aload_n B.exec B.bytes (show decode cJ0_indexOf_0f7a4 0 = .ok (.aload_n 0, 1) by decide +kernel) rfl (lv_at hl 0 rfl) ?_
  refine lv_iload_n B.exec B.bytes (show decode cJ0_indexOf_0f7a4 1 = .ok (.iload_n 1, 1) by decide +kernel) rfl (lv_at hl 1 rfl) ?_
  refine lv_iconst B.exec B.bytes (show decode cJ0_indexOf_0f7a4 2 = .ok (.iconst 0, 1) by decide +kernel) rfl ?_
  refine j_callW (va_runV (C := "java/lang/String") (b := kA) (As := [.int x, .int 0]) (rest := []) hCF (j_indexOf2 (l := l) (sz := sz) (kA := kA) (vA := vA) x) ⟨callB_of 2 hts (j_good (j_in3 (j := 128) rfl rfl)) rfl rfl rfl (hts _ (j_in1 (j := 15) rfl rfl)) (hts _ (j_in3 (j := 125) rfl rfl)) (by decide) ⟨Nat.le_of_ble_eq_true rfl, Nat.le_of_ble_eq_true rfl⟩, hts _ (j_in3 (j := 126) rfl rfl), hts _ (j_in3 (j := 127) rfl rfl)⟩ (j_preV hJ hS) rfl rfl hl.1 rfl (lv_room (Nat.le_of_ble_eq_true rfl)) (show decode cJ0_indexOf_0f7a4 3 = .ok (.invokevirtual 633, 3) by decide +kernel) ⟨Nat.le_of_ble_eq_true rfl, Nat.le_of_ble_eq_true rfl⟩) hS (fun locs3 hS3 => ?_)
  exact W.iret B.exec B.bytes B.returns (fun t ht hW => ⟨rfl, ht⟩) hS3.2.2 (show decode cJ0_indexOf_0f7a4 6 = .ok (.ireturn, 1) by decide +kernel) B.notSynchronized
theorem j_lx_eq0 : ∀ i : Fin 256, j_ix (Int32.ofInt ((i : Nat) : Int)).toInt8.toInt32 j_by 0 = g_ixF (Int32.ofInt ((i : Nat) : Int)) j_by 0 := by decide +kernel
theorem j_ixF_out {c : Int32} : ∀ {l : List Int32} {k : Int32}, (∀ b ∈ l, ¬ b = c) → g_ixF c l k = -1
  | [], _, _ => rfl
  | b :: l, k, h => by
    show (if b = c then k else g_ixF c l (k + 1)) = -1
    rw [if_neg (h b List.mem_cons_self)]
    exact j_ixF_out (fun b hb => h b (List.mem_cons_of_mem _ hb))
theorem j_by_b : ∀ b ∈ j_by, 0 ≤ b.toInt ∧ b.toInt ≤ 255 := by decide
theorem j_lx_eq (x : Int32) : j_lx x = g_ixF x j_by 0 := by
  have e0 : (0 : Int32).toInt = 0 := rfl
  have e255 : (255 : Int32).toInt = 255 := rfl
  unfold j_lx j_ce
  by_cases h1 : x < 0
  · rw [if_pos h1, if_pos rfl]
    have h1 := Int32.lt_iff_toInt_lt.mp h1
    exact (j_ixF_out (fun b hb e => by have := j_by_b b hb; rw [e] at this; omega)).symm
  · rw [if_neg h1]
    by_cases h2 : 255 < x
    · rw [if_pos h2, if_pos rfl]
      have h2 := Int32.lt_iff_toInt_lt.mp h2
      exact (j_ixF_out (fun b hb e => by have := j_by_b b hb; rw [e] at this; omega)).symm
    · rw [if_neg h2, if_neg (by decide)]
      have h1 : ¬ x.toInt < 0 := fun h => h1 (Int32.lt_iff_toInt_lt.mpr h)
      have h2 : ¬ (255 : Int) < x.toInt := fun h => h2 (Int32.lt_iff_toInt_lt.mpr h)
      have k := j_lx_eq0 ⟨x.toInt.toNat, by omega⟩
      dsimp only at k
      rw [show ((x.toInt.toNat : Nat) : Int) = x.toInt by omega, Int32.ofInt_toInt] at k
      exact k
end Prt09b
section Prt09c
/-! the String constant at the law's start -/
theorem j_tb3 {w : Cond} {j : Nat} (h1 : tables_1_3[j]? = some w) : w ∈ lw_tbl := by
  unfold lw_tbl tables_1
  exact List.mem_append_right _ (List.mem_append_right _ (List.mem_append_right _ (List.mem_append_left _ (List.mem_of_getElem? h1))))
theorem j_tb1 {w : Cond} {j : Nat} (h1 : tables_1_1[j]? = some w) : w ∈ lw_tbl := by
  unfold lw_tbl tables_1
  exact List.mem_append_right _ (List.mem_append_left _ (List.mem_of_getElem? h1))
set_option maxRecDepth 100000 in
set_option maxHeartbeats 4000000 in
theorem g_Str_start {b : Addr} {s : State} (hts0 : ∀ w ∈ lw_tbl, w.before #[Value.ref b] s = true) (hgv : (Jvm.Cond.and given_1 narrow_1).before #[Value.ref b] s = true) : g_Str s.heap.size s := by
  have hs := flat_of_before _ hgv
  have hA : ∀ a : Nat, a < s.heap.size → ¬ g_A s.heap.size a := fun a h h2 => by
    have h2 : s.heap.size ≤ a := h2
    omega
  obtain ⟨adK, adV, hS, hev⟩ := vk_Sof (args := #[Value.ref b]) (s := s) (N := 1) (tm := fun _ => Term.string "GustHome$Reader" 120) (len := [15]) (byt := [j_by]) (A := g_A s.heap.size)
    (fun i hi => by
      obtain rfl : i = 0 := by omega
      decide)
    (fun i hi => hs _ (by decide +kernel)) (fun i hi => hs _ (by decide +kernel)) (fun i hi => hs _ (by decide +kernel))
    (fun i hi => by
      obtain rfl : i = 0 := by omega
      exact hs _ (by decide +kernel))
    (fun i hi j hj => by
      obtain rfl : i = 0 := by omega
      have hj : j < 15 := hj
      match j, hj with
      | 0, _ => exact hs _ (by decide +kernel)
      | 1, _ => exact hs _ (by decide +kernel)
      | 2, _ => exact hs _ (by decide +kernel)
      | 3, _ => exact hs _ (by decide +kernel)
      | 4, _ => exact hs _ (by decide +kernel)
      | 5, _ => exact hs _ (by decide +kernel)
      | 6, _ => exact hs _ (by decide +kernel)
      | 7, _ => exact hs _ (by decide +kernel)
      | 8, _ => exact hs _ (by decide +kernel)
      | 9, _ => exact hs _ (by decide +kernel)
      | 10, _ => exact hs _ (by decide +kernel)
      | 11, _ => exact hs _ (by decide +kernel)
      | 12, _ => exact hs _ (by decide +kernel)
      | 13, _ => exact hs _ (by decide +kernel)
      | 14, _ => exact hs _ (by decide +kernel)
      | n + 15, h => omega)
    (fun i j hi hj hne => by omega) hA
  have hZ : va_Z "java/lang/String" "COMPACT_STRINGS" "Z" (.int 1) (g_A s.heap.size) s s.heap := va_Zof (hts0 _ (j_tb3 (j := 134) rfl)) (hts0 _ (j_tb1 (j := 15) rfl)) (va_eqi (hs _ (by decide +kernel))) hA
  obtain ⟨h1, h2, h3, h4⟩ := hS.1 0 (by omega)
  exact ⟨adK 0, adV 0, ⟨h1, h2, h3, h4, hZ⟩, vk_R.of (hts0 _ (j_tb3 (j := 120) rfl)) (hev 0 (by omega))⟩
end Prt09c
section Prt10
noncomputable def g_Tok (mt : Nat → Option g_M) (M : g_M) : Prop := ∀ pc en, M.2.2.2.2.2 pc = some en → g_eOk mt M pc en
/-- a run of the pure machine is a run of the machine: a frame's body -/
noncomputable def g_Body (mt : Nat → Option g_M) (l : Launch) (D : va_G) (b sz : Nat) (dA : Nat → ClassId) (L : Nat) (xs : Nat → Int32) (n : Nat) : Prop :=
  ∀ (d : Nat) (M : g_M) (pc : Nat) (ls : g_Lc) (st : List Value) (σ : List g_Ce) (r : Option Value × List g_Ce), g_run mt L xs n d M pc ls st σ = some r → g_Tok mt M →
    ∀ (p : Program) (e : Env) (R : Room) (s : State) (m : MethodId) (args : Array Value) (below : List Frame) (meth : Method) (c : Code) (H : Heap) (locs : List Loc) (cells slots : Nat) (Q : State → Prop) (lsA : Array Slot),
      g_Fx M D b sz dA L xs p s m args meth c → lv_has lsA M.2.2.2.1 (g_cl2 b sz ls) → g_Hp D b sz dA σ H → va_S (g_A sz) s.heap H locs → d ≤ R.frames → d * 64 ≤ R.locals → cells + (r.2.length - σ.length) ≤ R.cells → slots + (g_sl r.2 - g_sl σ) ≤ R.slots →
      (∀ (pc' : Nat) (en : g_En) (st1 : List Value) (lsB : Array Slot) (H1 : Heap) (locs1 : List Loc), g_eOk mt M pc' en → g_rt en.1.1 M.2.2.2.2.1 st1 = some r.1 → g_Hp D b sz dA r.2 H1 → va_S (g_A sz) s.heap H1 locs1 → W p l e R s m args below meth c H1 locs1 (cells + (r.2.length - σ.length)) (slots + (g_sl r.2 - g_sl σ)) Q (F0 m pc' lsB (st1.map (g_cv b sz)))) →
      W p l e R s m args below meth c H locs cells slots Q (F0 m pc lsA (st.map (g_cv b sz)))
theorem g_rt_sw {ins : Instr} {ret : Option FieldType} {st : List Value} {r : Option Value} (h : g_rt ins ret st = some r) : g_sw ins = false := by
  unfold g_rt at h
  split at h <;> first | rfl | cases h
section GR
variable {p : Program} {l : Launch} {e : Env} {R : Room} {s : State} {m : MethodId} {args : Array Value} {below : List Frame} {meth : Method} {c : Code} {H : Heap} {locs : List Loc} {cells slots : Nat} {Q : State → Prop}
variable {pc : Nat} {lsA : Array Slot} {b sz : Nat} {D : va_G} {dA : Nat → ClassId} {σ : List g_Ce} {code : ByteArray} {ins : Instr} {len : Nat} {ret : Option FieldType} {st : List Value} {r : Option Value}
set_option maxHeartbeats 1000000 in
theorem g_ret_ok (hx : p.tables.exec = Jvm.exec) (hb : c.code = code) (hr : meth.sig.returnType = ret) (hlocks : meth.locks = false) (hdg : decode code pc = .ok (ins, len)) (hlen : len = g_len ins) (h : g_rt ins ret st = some r) (hH : g_Hp D b sz dA σ H) (hS : va_S (g_A sz) s.heap H locs) :
    W p l e R s m args below meth c H locs cells slots (MQ below (g_Qc D b sz dA r σ) args s cells slots (g_A sz)) (F0 m pc lsA (st.map (g_cv b sz))) := by
  subst hlen
  unfold g_rt at h
  split at h
  · cases h
    exact W.iret hx hb hr (fun t ht hW => ⟨rfl, by rw [ht]; exact hH, hS.F ht⟩) hS.2.2 hdg hlocks
  · split at h
    · rename_i hn
      cases h
      exact W.zret hx hb hr hn (fun t ht hW => ⟨rfl, by rw [ht]; exact hH, hS.F ht⟩) hS.2.2 hdg hlocks
    · cases h
  · split at h
    · rename_i hn
      cases h
      exact W.zret hx hb hr hn (fun t ht hW => ⟨rfl, by rw [ht]; exact hH, hS.F ht⟩) hS.2.2 hdg hlocks
    · cases h
  · split at h
    · rename_i hn
      cases h
      exact W.zret hx hb hr hn (fun t ht hW => ⟨rfl, by rw [ht]; exact hH, hS.F ht⟩) hS.2.2 hdg hlocks
    · cases h
  · cases h
    exact W.aret hx hb hr (Or.inl ⟨_, rfl⟩) (Or.inr ⟨_, rfl⟩) (fun t ht hW => ⟨rfl, by rw [ht]; exact hH, hS.F ht⟩) hS.2.2 hdg hlocks
  · cases h
    exact W.aret hx hb hr (Or.inl ⟨_, rfl⟩) (Or.inl rfl) (fun t ht hW => ⟨rfl, by rw [ht]; exact hH, hS.F ht⟩) hS.2.2 hdg hlocks
  · cases h
    exact W.vret hx hb hr (fun t ht hW => ⟨rfl, by rw [ht]; exact hH, hS.F ht⟩) hS.2.2 hdg hlocks
  · cases h
end GR
set_option maxHeartbeats 1000000 in
theorem g_met {mt : Nat → Option g_M} {l : Launch} {D : va_G} {b sz : Nat} {dA : Nat → ClassId} {L : Nat} {xs : Nat → Int32} {n : Nat} (hB : g_Body mt l D b sz dA L xs n) {d : Nat} {M : g_M} (hM : g_Mok mt M) {as : List Value} (hlen : (lg_sl as).length ≤ M.2.2.2.1) {σ : List g_Ce} {r : Option Value × List g_Ce} (h : g_run mt L xs n d M 0 (lv_args 0 as) [] σ = some r) (hbs : b < sz) :
    Met l M.2.1 (g_wsM M) (g_rmd d (r.2.length - σ.length) (g_sl r.2 - g_sl σ)) (g_Pc D b sz dA L xs as σ) (g_Qc D b sz dA r.1 r.2) (r.2.length - σ.length) (g_sl r.2 - g_sl σ) (g_A sz) := by
  refine Met.ofW (cc := M.2.2.1) (maxL := M.2.2.2.1) (ret := M.2.2.2.2.1) hM.1 rfl ?_
  intro p e s m args below meth c s₁ B hml hv
  obtain ⟨rfl, hH, hSt, hX, hStr⟩ := hv
  have hts := atoms_spec (ws := g_wsM M) B.pre
  have hown : s.vm.findClass M.1 = some m.cls := by rw [← hM.2.2.2.1]; exact findClass_of_methodNamed B.named
  have hnm := (name_of_methodNamed B.named B.method).1
  have hl := lv_entry (as.map (g_cv b sz)) (n := M.2.2.2.1) (by rw [g_lgsl]; exact hlen)
  rw [lg_entry_eq]
  generalize (lg_sl (as.map (g_cv b sz)) ++ List.replicate (M.2.2.2.1 - (lg_sl (as.map (g_cv b sz))).length) Slot.unset).toArray = ls at hl ⊢
  rw [g_lvargs] at hl
  refine hB d M 0 (lv_args 0 as) [] σ r h hM.2.2.2.2 p e _ s m _ below meth c s.heap [] 0 0 _ ls ⟨B.exec, B.bytes, hml, hown, fun w hw => hts w (List.mem_cons_of_mem _ hw), hSt, hX, hbs, by rw [hH.2]; exact Nat.le_add_right _ _, ⟨fun h => by rw [hnm]; exact h, hStr⟩⟩ hl hH va_S.rf (Nat.le_refl _) (Nat.le_refl _) (by rw [Nat.zero_add]; exact Nat.le_refl _) (by rw [Nat.zero_add]; exact Nat.le_refl _) ?_
  intro pc' en st1 lsB H1 locs1 hE hrt hH1 hS1
  rw [Nat.zero_add, Nat.zero_add]
  exact g_ret_ok B.exec B.bytes B.returns B.notSynchronized hE.1 (hE.2.1 (g_rt_sw hrt)) hrt hH1 hS1
theorem g_oi_ok {k : Nat} {st rest : List Value} (h : g_oi k st = some rest) : k = 2 ∧ g_cat rest ≤ 8 ∧ ∃ a, st = .ref a :: rest := by
  unfold g_oi at h
  split at h
  · simp only [cond_eq_ite] at h
    split at h
    · rename_i hc
      cases h
      exact ⟨rfl, by simpa using hc, _, rfl⟩
    · cases h
  · cases h
theorem g_ki_ok {ins : Instr} {k : Nat} (h : g_ki ins = some k) : g_sw ins = false ∧ g_len ins = 3 := by
  unfold g_ki at h
  split at h <;> first | exact ⟨rfl, rfl⟩ | cases h
theorem g_ki_2 {ins : Instr} (h : g_ki ins = some 2) : ∃ i, ins = .invokespecial i := by
  unfold g_ki at h
  split at h <;> first | (cases h; done) | exact ⟨_, rfl⟩
theorem g_stkeq (b sz y : Nat) (st : List Value) : st.map (g_cv b sz) = (((st.take y).reverse).map (g_cv b sz)).reverse ++ (st.drop y).map (g_cv b sz) := by
  rw [← List.map_reverse, List.reverse_reverse, ← List.map_append, List.take_append_drop]
theorem g_asl (b sz y : Nat) (st : List Value) (h : y ≤ st.length) : (((st.take y).reverse).map (g_cv b sz)).length = y := by
  rw [List.length_map, List.length_reverse, List.length_take]
  omega
section GV
variable {p : Program} {l : Launch} {e : Env} {R : Room} {s : State} {m : MethodId} {args : Array Value} {below : List Frame} {meth : Method} {c : Code} {H : Heap} {locs : List Loc} {cells slots : Nat} {Q : State → Prop}
variable {mt : Nat → Option g_M} {M M' : g_M} {pc L x y k mc ms : Nat} {xs : Nat → Int32} {lsA : Array Slot} {b sz : Nat} {D : va_G} {dA : Nat → ClassId} {σ : List g_Ce} {ins : Instr} {st : List Value} {q : List Value × List Value} {rm : Room} {Qc : Array Value → State → Outcome → State → Prop}
set_option maxHeartbeats 1000000 in
theorem g_calls (hF : g_Fx M D b sz dA L xs p s m args meth c) (hMk : g_Mok mt M') (hM' : mt x = some M') (hl : lsA.size = M.2.2.2.1) (e1 : decode M.2.2.1 pc = .ok (ins, 3)) (e6 : g_lkc mt M.1 x y ins) (hk : g_ki ins = some k) (hq : g_cl k y M'.1 st σ = some q) (hcat : g_cat q.2 ≤ 8)
    (hH : g_Hp D b sz dA σ H) (hpre : PreS s H (g_Pc D b sz dA L xs q.1 σ) (q.1.map (g_cv b sz))) (hmet : Met l M'.2.1 (g_wsM M') rm (g_Pc D b sz dA L xs q.1 σ) Qc mc ms (g_A sz)) (hrc : rm.cells = mc) (hrs : rm.slots = ms) (hRR : rm.frames + 1 ≤ R.frames ∧ 8 + (M'.2.2.2.1 + 11) + rm.locals ≤ R.locals) (hfit : cells + mc ≤ R.cells ∧ slots + ms ≤ R.slots) :
    va_Run p l e R s m args below meth c H locs cells slots mc ms (F0 m pc lsA (st.map (g_cv b sz))) (q.2.map (g_cv b sz)) (Qc (q.1.map (g_cv b sz)).toArray) (g_A sz) := by
  obtain ⟨hx, hb, hml, hown, hts, hSt, -, -, -, -⟩ := hF
  have hCF : CallFix p m c M.2.2.1 M.2.2.2.1 s args g_wk M.1 := ⟨hx, hb, hml, hown, hts⟩
  have hroomW : 2 * (F0 m pc lsA (st.map (g_cv b sz))).monitorRoom + ((q.2.map (g_cv b sz)).map fun v => v.category).sum ≤ 8 := lv_room (by rw [g_catcv]; exact hcat)
  have hgw := g_good M' hMk.2.2.1
  unfold g_ki at hk
  split at hk
  · cases hk
    obtain ⟨⟨lk, hini, hd⟩, hst⟩ := e6 M' hM'
    simp only [g_cl] at hq
    simp only [cond_eq_ite] at hq
    split at hq
    · rename_i hyl
      have hyl : y ≤ st.length := by simpa using hyl
      cases hq
      rcases lk with lk | ⟨host, lk⟩
      · exact va_runS hCF hmet ⟨callB_of y hts hgw rfl hrc hrs (hts _ hini) (hts _ lk) hd hRR, hts _ hst⟩ hpre rfl (g_asl b sz y st hyl) hl (g_stkeq b sz y st) hroomW e1 hfit
      · exact va_runSN hCF hmet ⟨va_cnB y hts hgw rfl hrc hrs (hSt.2.1 _ lk) (hts _ hini) hd hRR, hts _ hst, trivial⟩ hpre rfl (g_asl b sz y st hyl) hl (g_stkeq b sz y st) hroomW e1 hfit
    · cases hq
  · cases hk
    obtain ⟨⟨lk, hini, hd⟩, hin, hsel⟩ := e6 M' hM'
    simp only [g_cl] at hq
    split at hq
    · rename_i a rest hdr
      split at hq
      · rename_i ci fs hσ
        split at hq
        · rename_i qc hqc
          split at hq
          · rename_i hcc
            obtain ⟨hco, hyl⟩ := hcc
            cases hq
            have hstk : st.map (g_cv b sz) = (((st.take y).reverse).map (g_cv b sz)).reverse ++ (.ref (sz + a) :: rest.map (g_cv b sz)) := by
              have e7 : (st.drop y).map (g_cv b sz) = .ref (sz + a) :: rest.map (g_cv b sz) := by rw [hdr]; rfl
              rw [← e7]
              exact g_stkeq b sz y st
            have hrecv : ∃ cellB : Cell, H[sz + a]? = some cellB ∧ cellB.vm.isStatics = false ∧ s.vm.findClass M'.2.1.cls = some cellB.cls := by
              obtain ⟨r', hr', cellV, k1, k2, k3, -⟩ := hH.1 a _ (g_ws_at hσ)
              have hcls := (hSt.1.1 ci qc hqc).2
              refine ⟨cellV, k1, by rw [k3]; rfl, ?_⟩
              rw [hMk.2.2.2.1, ← hco, k2]
              exact hcls.1
            have hpreV : PreV s H M'.2.1.cls (sz + a) (g_Pc D b sz dA L xs (.ref (a + 1) :: (st.take y).reverse) σ) (((st.take y).reverse).map (g_cv b sz)) := ⟨hpre.1, hrecv, hpre.2⟩
            rcases lk with lk | ⟨host, lk⟩
            · exact va_runV (C := M'.2.1.cls) (b := sz + a) hCF hmet ⟨callB_of y hts hgw rfl hrc hrs (hts _ hini) (hts _ lk) hd hRR, hts _ hin, hts _ hsel⟩ hpreV rfl (g_asl b sz y st hyl) hl hstk hroomW e1 hfit
            · exact va_runVN (C := M'.2.1.cls) (b := sz + a) hCF hmet ⟨va_cnB y hts hgw rfl hrc hrs (hSt.2.1 _ lk) (hts _ hini) hd hRR, hts _ hin, hts _ hsel⟩ hpreV rfl (g_asl b sz y st hyl) hl hstk hroomW e1 hfit
          · cases hq
        · cases hq
      · cases hq
    · cases hq
  · cases hk
    obtain ⟨⟨lk, hini, hd⟩, hin1, hin, hrn⟩ := e6.2 M' hM'
    simp only [g_cl] at hq
    split at hq
    · rename_i a rest hdr
      simp only [cond_eq_ite] at hq
      split at hq
      · rename_i hyl
        have hyl : y ≤ st.length := by simpa using hyl
        cases hq
        have hstk : st.map (g_cv b sz) = (((st.take y).reverse).map (g_cv b sz)).reverse ++ (.ref (g_ad b sz a) :: rest.map (g_cv b sz)) := by
          have e7 : (st.drop y).map (g_cv b sz) = .ref (g_ad b sz a) :: rest.map (g_cv b sz) := by rw [hdr]; rfl
          rw [← e7]
          exact g_stkeq b sz y st
        have hwE : g_wsM M' = Cond.code M'.2.1 M'.2.2.1 M'.2.2.2.1 none :: g_wk := by rw [g_wsM, hrn]
        rcases lk with lk | ⟨host, lk⟩
        · exact va_runI (b := g_ad b sz a) hCF hmet ⟨callB_of y hts hgw hwE hrc hrs (hts _ hini) (hts _ lk) hd hRR, hin1, hts _ hin⟩ hpre rfl (g_asl b sz y st hyl) hl hstk hroomW e1 hfit
        · exact va_runIN (b := g_ad b sz a) hCF hmet ⟨va_cnB y hts hgw hwE hrc hrs (hSt.2.1 _ lk) (hts _ hini) hd hRR, hin1, hts _ hin⟩ hpre rfl (g_asl b sz y st hyl) hl hstk hroomW e1 hfit
      · cases hq
    · cases hq
  · cases hk
end GV
set_option maxHeartbeats 1000000 in
theorem g_mac_ok {M : g_M} {D : va_G} {b sz : Nat} {dA : Nat → ClassId} {L : Nat} {xs : Nat → Int32} {p : Program} {l : Launch} {e : Env} {R : Room} {s : State} {m : MethodId} {args : Array Value} {below : List Frame} {meth : Method} {c : Code} {H : Heap} {locs : List Loc} {cells slots : Nat} {Q : State → Prop} {d pc : Nat} {ls : g_Lc} {st st' : List Value} {lsA : Array Slot} (hF : g_Fx M D b sz dA L xs p s m args meth c) (hm : g_mac d M pc ls st = some st') (hl : lv_has lsA M.2.2.2.1 (g_cl2 b sz ls)) (hS : va_S (g_A sz) s.heap H locs) (hd1 : d ≤ R.frames) (hd2 : d * 64 ≤ R.locals) (hc1 : cells ≤ R.cells) (hc2 : slots ≤ R.slots) (k : ∀ locs1 : List Loc, va_S (g_A sz) s.heap H locs1 → W p l e R s m args below meth c H locs1 cells slots Q (F0 m 20 lsA (st'.map (g_cv b sz)))) : W p l e R s m args below meth c H locs cells slots Q (F0 m pc lsA (st.map (g_cv b sz))) := by
  unfold g_mac at hm
  split at hm
  · rename_i hc9
    obtain ⟨m1, m2, m3, rfl, m5, m6⟩ := hc9
    split at hm
    · rename_i v hv
      cases hm
      have hst : st = [] := List.isEmpty_iff.mp m5
      subst hst
      obtain ⟨hx, hb, hml, hown, hts, hSt, hX, hbs, hsz, hnm, kA, vA, hJ, hR⟩ := hF
      rw [m3] at hb
      rw [m1] at hown
      have hCF : CallFix p m c cX5_readFactor M.2.2.2.1 s args g_wk RX5 := ⟨hx, hb, hml, hown, hts⟩
      obtain ⟨k9, hk9⟩ := g_get_at hv hl
      have hat : lsA[2]? = some (.val (.int v)) := lv_at hl k9 hk9
      refine va_ldcS hx hb hown hR (show decode cX5_readFactor 13 = .ok (.ldc 120, 2) by decide +kernel) ?_
      refine lv_iload_n hx hb (show decode cX5_readFactor 15 = .ok (.iload_n 2, 1) by decide +kernel) rfl hat ?_
      refine lv_i2c hx hb (show decode cX5_readFactor 16 = .ok (.i2c, 1) by decide +kernel) rfl ?_
      refine j_callW (va_runV (C := "java/lang/String") (b := kA) (As := [.int ((v.toUInt32 % 65536).toInt32)]) (rest := []) hCF (j_indexOf1 (l := l) (sz := sz) (kA := kA) (vA := vA) ((v.toUInt32 % 65536).toInt32)) ⟨callB_of 1 hts (j_good (j_in3 (j := 124) rfl rfl)) rfl rfl rfl (hts _ (j_in1 (j := 15) rfl rfl)) (hts _ (j_in3 (j := 121) rfl rfl)) (by decide) ⟨by show 3 + 1 ≤ R.frames; omega, by show 8 + (2 + 11) + 3 * 64 ≤ R.locals; omega⟩, hts _ (j_in3 (j := 122) rfl rfl), hts _ (j_in3 (j := 123) rfl rfl)⟩ (j_preV hJ hS) rfl rfl hl.1 rfl (lv_room (Nat.le_of_ble_eq_true rfl)) (show decode cX5_readFactor 17 = .ok (.invokevirtual 122, 3) by decide +kernel) ⟨hc1, hc2⟩) hS (fun locs1 hS1 => ?_)
      rw [j_lx_eq]
      exact k locs1 hS1
    · cases hm
  · cases hm
set_option maxHeartbeats 4000000 in
theorem g_body {mt : Nat → Option g_M} (hmt : ∀ μ M, mt μ = some M → g_Mok mt M) (hcl : g_clsIn) (l : Launch) (D : va_G) (b sz : Nat) (dA : Nat → ClassId) (L : Nat) (xs : Nat → Int32) : ∀ n, g_Body mt l D b sz dA L xs n := by
  intro n
  induction n with
  | zero =>
    intro d M pc ls st σ r h
    simp [g_run] at h
  | succ n ih =>
    intro d M pc ls st σ r h hM p e R s m args below meth c H locs cells slots Q lsA hF hl hH hS hd1 hd2 hr1 hr2 hret
    unfold g_run at h
    split at h
    · split at h
      · rename_i st' hmac
        exact g_mac_ok hF hmac hl hS hd1 hd2 (by omega) (by omega) (fun locs1 hS1 => ih _ _ _ _ _ _ _ h hM p e R s m args below meth c H locs1 cells slots Q lsA hF hl hH hS1 hd1 hd2 hr1 hr2 hret)
      · cases h
    · rename_i en hen
      have hE := hM pc en hen
      split at h
      · rename_i q hs
        obtain ⟨g11, g12⟩ := g_step_grow hs
        obtain ⟨g21, g22⟩ := g_run_grow _ _ _ _ _ _ _ _ _ _ _ h
        have ec : cells + (q.2.2.2.length - σ.length) + (r.2.length - q.2.2.2.length) = cells + (r.2.length - σ.length) := by omega
        have es : slots + (g_sl q.2.2.2 - g_sl σ) + (g_sl r.2 - g_sl q.2.2.2) = slots + (g_sl r.2 - g_sl σ) := by omega
        refine g_step_ok hcl hF hE hl hH hS hd1 hd2 hs (by omega) (by omega) (fun lsB H1 locs1 hlB hH1 hS1 => ?_)
        refine ih _ _ _ _ _ _ _ h hM p e R s m args below meth c H1 locs1 _ _ Q lsB hF hlB hH1 hS1 hd1 hd2 (by omega) (by omega) ?_
        rw [ec, es]
        exact hret
      · split at h
        · rename_i r0 hrt
          cases h
          have h9 := hret pc en st lsA H locs hE hrt hH hS
          rw [Nat.sub_self, Nat.sub_self] at h9
          exact h9
        · split at h
          · cases h
          · rename_i k hk
            obtain _ | d' := d
            · cases h
            · dsimp only at h
              have hki := g_ki_ok hk
              obtain ⟨⟨ins, len⟩, x, y, z⟩ := en
              have hl3 : len = 3 := (hE.2.1 hki.1).trans hki.2
              subst hl3
              dsimp only at h hk
              cases hxe : (x == 99999) with
              | true =>
                rw [hxe] at h
                dsimp only [cond_true] at h
                split at h
                · rename_i rest hoi
                  obtain ⟨rfl, hcat, a, rfl⟩ := g_oi_ok hoi
                  obtain ⟨i, rfl⟩ := g_ki_2 hk
                  obtain ⟨w1, w2, w3⟩ := hE.2.2.2.2.2.1 (by simpa using hxe)
                  have hF2 := hF
                  obtain ⟨hx, hb, hml, hown, hts, -⟩ := hF2
                  refine W.objInit hx hb hown (hts _ w1) (hts _ w2) (hts _ w3) rfl (by rw [hml]; exact hl.1) rfl hE.1 (by omega) (by
                    show 2 * 0 + ((rest.map (g_cv b sz)).map fun v => v.category).sum + 12 ≤ _
                    rw [g_catcv]
                    omega) ?_
                  exact ih _ _ _ _ _ _ _ h hM p e R s m args below meth c H locs cells slots Q lsA hF hl hH hS hd1 hd2 hr1 hr2 hret
                · cases h
              | false =>
                rw [hxe] at h
                dsimp only [cond_false] at h
                split at h
                · cases h
                · rename_i M' hM'
                  have hMk := hmt _ _ hM'
                  split at h
                  · cases h
                  · rename_i q hq
                    cases hcond : (decide (g_cat q.2 ≤ 8) && decide ((lg_sl q.1).length ≤ M'.2.2.2.1)) with
                    | false => rw [hcond] at h; cases h
                    | true =>
                      rw [hcond] at h
                      dsimp only [cond_true] at h
                      rw [Bool.and_eq_true, decide_eq_true_eq, decide_eq_true_eq] at hcond
                      obtain ⟨hcat, hlgs⟩ := hcond
                      split at h
                      · cases h
                      · rename_i w hw
                        obtain ⟨g11, g12⟩ := g_run_grow _ _ _ _ _ _ _ _ _ _ _ hw
                        obtain ⟨g21, g22⟩ := g_run_grow _ _ _ _ _ _ _ _ _ _ _ h
                        have ec : cells + (w.2.length - σ.length) + (r.2.length - w.2.length) = cells + (r.2.length - σ.length) := by omega
                        have es : slots + (g_sl w.2 - g_sl σ) + (g_sl r.2 - g_sl w.2) = slots + (g_sl r.2 - g_sl σ) := by omega
                        have hF2 := hF
                        obtain ⟨hx, hb, hml, hown, hts, hSt, hX, hbs, hsz, hnm, hStr⟩ := hF2
                        have hmet := g_met (l := l) ih hMk hlgs hw hbs
                        have hz45 := hMk.2.1
                        refine g_callW (g_calls hF hMk hM' hl.1 hE.1 hE.2.2.2.2.2 hk hq hcat hH (g_preS hSt hX hbs hsz hStr hH hS) hmet rfl rfl ⟨hd1, ?_⟩ ⟨by omega, by omega⟩) hS (fun H1 locs1 hH1 hS1 => ?_)
                        · show 8 + (M'.2.2.2.1 + 11) + d' * 64 ≤ R.locals
                          omega
                        · have e9 : (Option.map (g_cv b sz) w.1).toList ++ q.2.map (g_cv b sz) = (w.1.toList ++ q.2).map (g_cv b sz) := by
                            rw [List.map_append]
                            cases w.1 <;> rfl
                          rw [e9]
                          refine ih _ _ _ _ _ _ _ h hM p e R s m args below meth c H1 locs1 _ _ Q lsA hF hl hH1 hS1 hd1 hd2 (by omega) (by omega) ?_
                          rw [ec, es]
                          exact hret
end Prt10
