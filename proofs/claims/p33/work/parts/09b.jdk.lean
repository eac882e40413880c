/-! String.indexOf(I) over the one constant: the JDK's own rows -/
theorem j_in3 {w : Cond} {j : Nat} (h1 : tables_1_3[j]? = some w) (h2 : goodWord w = true) : w ∈ g_wk := List.mem_filter.mpr ⟨by
  unfold lw_tbl tables_1
  exact List.mem_append_right _ (List.mem_append_right _ (List.mem_append_right _ (List.mem_append_left _ (List.mem_of_getElem? h1)))), h2⟩
theorem j_in1 {w : Cond} {j : Nat} (h1 : tables_1_1[j]? = some w) (h2 : goodWord w = true) : w ∈ g_wk := List.mem_filter.mpr ⟨by
  unfold lw_tbl tables_1
  exact List.mem_append_right _ (List.mem_append_left _ (List.mem_of_getElem? h1)), h2⟩
theorem j_in9 {w : Cond} {j : Nat} (h1 : tables_1_9[j]? = some w) (h2 : goodWord w = true) : w ∈ g_wk := List.mem_filter.mpr ⟨by
  unfold lw_tbl tables_1
  exact List.mem_append_right _ (List.mem_append_right _ (List.mem_append_right _ (List.mem_append_right _ (List.mem_append_right _ (List.mem_append_right _ (List.mem_append_right _ (List.mem_append_right _ (List.mem_append_right _ (List.mem_of_getElem? h1))))))))), h2⟩
def j_ws (y : MethodName) (cc : ByteArray) (n : Nat) (ret : Option FieldType) : List Cond := Cond.code y cc n ret :: g_wk
theorem j_good {y : MethodName} {cc : ByteArray} {n : Nat} {ret : Option FieldType} (h : Cond.code y cc n ret ∈ g_wk) : GoodIn g_wk (j_ws y cc n ret) := by
  have k : ∀ w ∈ g_wk, w ∈ g_wk ∧ ((w.onTables && w.keeps) = true ∨ ∃ ty, w = .arrayClass ty) := fun w hw => ⟨hw, good_of_word (List.mem_filter.mp hw).2⟩
  intro w hw
  rcases List.mem_cons.mp hw with rfl | hw
  · exact k _ h
  · exact k w hw
def j_Pc (sz kA vA : Nat) (as : List Value) : Array Value → State → Prop := va_Pc as (fun U => j_B sz kA vA U)
def j_Qc (v : Int32) : Array Value → State → Outcome → State → Prop := fun _ st oc t => oc = .returned (some (.int v)) ∧ t.heap = st.heap
theorem j_blind (sz kA vA : Nat) (as : List Value) : FrameBlind (j_Pc sz kA vA as) := fun a U g mk q => ⟨q.1, j_B_same (s := U) (U := U.calling g mk a) q.2 rfl rfl⟩
section JC
variable {p : Program} {l : Launch} {e : Env} {R : Room} {s : State} {m : MethodId} {args : Array Value} {below : List Frame} {meth : Method} {c : Code} {H : Heap} {locs : List Loc} {cells slots : Nat} {Q : State → Prop}
theorem j_pre {sz kA vA : Nat} {as : List Value} (hJ : j_B sz kA vA s) (hS : va_S (g_A sz) s.heap H locs) : PreS s H (j_Pc sz kA vA as) as := ⟨j_blind sz kA vA as, fun U hU hW => ⟨rfl, j_B_mv hJ hS hU hW.alike⟩⟩
theorem j_preV {sz kA vA : Nat} {as : List Value} (hJ : j_B sz kA vA s) (hS : va_S (g_A sz) s.heap H locs) : PreV s H "java/lang/String" kA (j_Pc sz kA vA (.ref kA :: as)) as := by
  refine ⟨j_blind sz kA vA _, ?_, (j_pre hJ hS).2⟩
  obtain ⟨cell, h1, h2, h3, -⟩ := hJ.1.kept hS.2.1
  exact ⟨cell, h1, h2, h3⟩
theorem j_callW {v : Int32} {a : Array Value} {pc sz : Nat} {lsA : Array Slot} {st0 rest : List Value} (hr : va_Run p l e R s m args below meth c H locs cells slots 0 0 (F0 m pc lsA st0) rest (j_Qc v a) (g_A sz)) (hS : va_S (g_A sz) s.heap H locs)
    (kk : ∀ locs1 : List Loc, va_S (g_A sz) s.heap H locs1 → W p l e R s m args below meth c H locs1 cells slots Q (F0 m (pc + 3) lsA (.int v :: rest))) : W p l e R s m args below meth c H locs cells slots Q (F0 m pc lsA st0) := by
  intro T hT X
  obtain ⟨v', st₀, t, T', L, h0, X', hL, e1, e2, ⟨hv, hp⟩, st⟩ := hr T hT X
  cases hv
  have hH : T'.heap = H := by rw [e1, hp, h0]
  obtain ⟨t2, a1, b1⟩ := kk (locs ++ L) ⟨hS.1, hS.2.1, fun q hq => by
      rcases List.mem_append.mp hq with h | h
      · exact hS.2.2 q h
      · exact hL q h⟩ T' hH X'
  exact ⟨t2, st t2 a1, b1⟩
end JC
set_option maxHeartbeats 1000000 in
theorem j_isLatin1 {l : Launch} {sz kA vA : Nat} : Met l yJ0_isLatin1_aae02 (j_ws yJ0_isLatin1_aae02 cJ0_isLatin1_aae02 1 (some .boolean)) (g_rmd 0 0 0) (j_Pc sz kA vA [.ref kA]) (j_Qc 1) 0 0 (g_A sz) := by
  refine Met.ofW (cc := cJ0_isLatin1_aae02) (maxL := 1) (ret := some .boolean) (by decide) rfl ?_
  intro p e s m args below meth c s₁ B hml hv
  obtain ⟨rfl, hJ⟩ := hv
  have hts0 := atoms_spec (ws := j_ws yJ0_isLatin1_aae02 cJ0_isLatin1_aae02 1 (some .boolean)) B.pre
  have hts : ∀ w ∈ g_wk, w.before ([.ref kA] : List Value).toArray s = true := fun w hw => hts0 w (List.mem_cons_of_mem _ hw)
  have hown : s.vm.findClass RJ0 = some m.cls := findClass_of_methodNamed B.named
  have hl := lv_entry ([.ref kA] : List Value) (n := 1) (Nat.le_of_ble_eq_true rfl)
  rw [lg_entry_eq]
  generalize (lg_sl [.ref kA] ++ List.replicate (1 - (lg_sl [.ref kA]).length) Slot.unset).toArray = ls at hl ⊢
  have hl : lv_has ls 1 (lv_args 0 [.ref kA]) := hl
  have hCF : CallFix p m c cJ0_isLatin1_aae02 1 s ([.ref kA] : List Value).toArray g_wk RJ0 := ⟨B.exec, B.bytes, hml, hown, hts⟩
  have hS : va_S (g_A sz) s.heap s.heap [] := va_S.rf
  refine va_gets B.exec B.bytes hJ.2.2.2.2 hS hown (hts _ (j_in3 (j := 133) rfl rfl)) (fun _ h => h) (show decode cJ0_isLatin1_aae02 0 = .ok (.getstatic 38, 3) by decide +kernel) ?_
  refine lv_if_eq B.exec B.bytes (show decode cJ0_isLatin1_aae02 3 = .ok (.ifCond .eq 14, 3) by decide +kernel) (tgt := 17) rfl (fun h => ?_) (fun h => ?_)
  · exact absurd h (by decide)
  · skip
    refine lv_aload_n B.exec B.bytes (show decode cJ0_isLatin1_aae02 6 = .ok (.aload_n 0, 1) by decide +kernel) rfl (lv_at hl 0 rfl) ?_
    refine vk_getf B.exec B.bytes hJ.2.1 hS hown (hts _ (j_in9 (j := 204) rfl rfl)) (fun _ h => h) (show decode cJ0_isLatin1_aae02 7 = .ok (.getfield 15, 3) by decide +kernel) ?_
    refine lv_if_ne B.exec B.bytes (show decode cJ0_isLatin1_aae02 10 = .ok (.ifCond .ne 7, 3) by decide +kernel) (tgt := 17) rfl (fun h => ?_) (fun h => ?_)
    · exact absurd rfl h
    · skip
      refine lv_iconst B.exec B.bytes (show decode cJ0_isLatin1_aae02 13 = .ok (.iconst 1, 1) by decide +kernel) rfl ?_
      refine lv_goto B.exec B.bytes (show decode cJ0_isLatin1_aae02 14 = .ok (.goto 4, 3) by decide +kernel) (tgt := 18) rfl ?_
      exact W.zret B.exec B.bytes B.returns rfl (fun t ht hW => ⟨rfl, ht⟩) hS.2.2 (show decode cJ0_isLatin1_aae02 18 = .ok (.ireturn, 1) by decide +kernel) B.notSynchronized
set_option maxHeartbeats 1000000 in
theorem j_coder {l : Launch} {sz kA vA : Nat} : Met l yJ0_coder_7d493 (j_ws yJ0_coder_7d493 cJ0_coder_7d493 1 (some .byte)) (g_rmd 0 0 0) (j_Pc sz kA vA [.ref kA]) (j_Qc 0) 0 0 (g_A sz) := by
  refine Met.ofW (cc := cJ0_coder_7d493) (maxL := 1) (ret := some .byte) (by decide) rfl ?_
  intro p e s m args below meth c s₁ B hml hv
  obtain ⟨rfl, hJ⟩ := hv
  have hts0 := atoms_spec (ws := j_ws yJ0_coder_7d493 cJ0_coder_7d493 1 (some .byte)) B.pre
  have hts : ∀ w ∈ g_wk, w.before ([.ref kA] : List Value).toArray s = true := fun w hw => hts0 w (List.mem_cons_of_mem _ hw)
  have hown : s.vm.findClass RJ0 = some m.cls := findClass_of_methodNamed B.named
  have hl := lv_entry ([.ref kA] : List Value) (n := 1) (Nat.le_of_ble_eq_true rfl)
  rw [lg_entry_eq]
  generalize (lg_sl [.ref kA] ++ List.replicate (1 - (lg_sl [.ref kA]).length) Slot.unset).toArray = ls at hl ⊢
  have hl : lv_has ls 1 (lv_args 0 [.ref kA]) := hl
  have hCF : CallFix p m c cJ0_coder_7d493 1 s ([.ref kA] : List Value).toArray g_wk RJ0 := ⟨B.exec, B.bytes, hml, hown, hts⟩
  have hS : va_S (g_A sz) s.heap s.heap [] := va_S.rf
  refine va_gets B.exec B.bytes hJ.2.2.2.2 hS hown (hts _ (j_in3 (j := 133) rfl rfl)) (fun _ h => h) (show decode cJ0_coder_7d493 0 = .ok (.getstatic 38, 3) by decide +kernel) ?_
  refine lv_if_eq B.exec B.bytes (show decode cJ0_coder_7d493 3 = .ok (.ifCond .eq 10, 3) by decide +kernel) (tgt := 13) rfl (fun h => ?_) (fun h => ?_)
  · exact absurd h (by decide)
  · skip
    refine lv_aload_n B.exec B.bytes (show decode cJ0_coder_7d493 6 = .ok (.aload_n 0, 1) by decide +kernel) rfl (lv_at hl 0 rfl) ?_
    refine vk_getf B.exec B.bytes hJ.2.1 hS hown (hts _ (j_in9 (j := 204) rfl rfl)) (fun _ h => h) (show decode cJ0_coder_7d493 7 = .ok (.getfield 15, 3) by decide +kernel) ?_
    refine lv_goto B.exec B.bytes (show decode cJ0_coder_7d493 10 = .ok (.goto 4, 3) by decide +kernel) (tgt := 14) rfl ?_
    exact W.zret B.exec B.bytes B.returns rfl (fun t ht hW => ⟨rfl, ht⟩) hS.2.2 (show decode cJ0_coder_7d493 14 = .ok (.ireturn, 1) by decide +kernel) B.notSynchronized
set_option maxHeartbeats 1000000 in
theorem j_length {l : Launch} {sz kA vA : Nat} : Met l yJ0_length_8abf5 (j_ws yJ0_length_8abf5 cJ0_length_8abf5 1 (some .int)) (g_rmd 1 0 0) (j_Pc sz kA vA [.ref kA]) (j_Qc 15) 0 0 (g_A sz) := by
  refine Met.ofW (cc := cJ0_length_8abf5) (maxL := 1) (ret := some .int) (by decide) rfl ?_
  intro p e s m args below meth c s₁ B hml hv
  obtain ⟨rfl, hJ⟩ := hv
  have hts0 := atoms_spec (ws := j_ws yJ0_length_8abf5 cJ0_length_8abf5 1 (some .int)) B.pre
  have hts : ∀ w ∈ g_wk, w.before ([.ref kA] : List Value).toArray s = true := fun w hw => hts0 w (List.mem_cons_of_mem _ hw)
  have hown : s.vm.findClass RJ0 = some m.cls := findClass_of_methodNamed B.named
  have hl := lv_entry ([.ref kA] : List Value) (n := 1) (Nat.le_of_ble_eq_true rfl)
  rw [lg_entry_eq]
  generalize (lg_sl [.ref kA] ++ List.replicate (1 - (lg_sl [.ref kA]).length) Slot.unset).toArray = ls at hl ⊢
  have hl : lv_has ls 1 (lv_args 0 [.ref kA]) := hl
  have hCF : CallFix p m c cJ0_length_8abf5 1 s ([.ref kA] : List Value).toArray g_wk RJ0 := ⟨B.exec, B.bytes, hml, hown, hts⟩
  have hS : va_S (g_A sz) s.heap s.heap [] := va_S.rf
  refine lv_aload_n B.exec B.bytes (show decode cJ0_length_8abf5 0 = .ok (.aload_n 0, 1) by decide +kernel) rfl (lv_at hl 0 rfl) ?_
  refine vk_getf B.exec B.bytes hJ.2.2.1 hS hown (hts _ (j_in9 (j := 205) rfl rfl)) (fun _ h => h) (show decode cJ0_length_8abf5 1 = .ok (.getfield 9, 3) by decide +kernel) ?_
  refine va_tlen B.exec B.bytes hJ.2.2.2.1 hS (v := 15) rfl (show decode cJ0_length_8abf5 4 = .ok (.arraylength, 1) by decide +kernel) ?_
  refine lv_aload_n B.exec B.bytes (show decode cJ0_length_8abf5 5 = .ok (.aload_n 0, 1) by decide +kernel) rfl (lv_at hl 0 rfl) ?_
  refine j_callW (va_runV (C := "java/lang/String") (b := kA) (As := []) (rest := [.int 15]) hCF (j_coder (l := l) (sz := sz) (kA := kA) (vA := vA)) ⟨callB_of 0 hts (j_good (j_in3 (j := 142) rfl rfl)) rfl rfl rfl (hts _ (j_in1 (j := 15) rfl rfl)) (hts _ (j_in3 (j := 139) rfl rfl)) (by decide) ⟨Nat.le_of_ble_eq_true rfl, Nat.le_of_ble_eq_true rfl⟩, hts _ (j_in3 (j := 140) rfl rfl), hts _ (j_in3 (j := 141) rfl rfl)⟩ (j_preV hJ hS) rfl rfl hl.1 rfl (lv_room (Nat.le_of_ble_eq_true rfl)) (show decode cJ0_length_8abf5 6 = .ok (.invokevirtual 335, 3) by decide +kernel) ⟨Nat.le_of_ble_eq_true rfl, Nat.le_of_ble_eq_true rfl⟩) hS (fun locs6 hS6 => ?_)
  refine lv_ishr B.exec B.bytes (show decode cJ0_length_8abf5 9 = .ok (.ishr, 1) by decide +kernel) ?_
  exact W.iret B.exec B.bytes B.returns (fun t ht hW => ⟨rfl, ht⟩) hS6.2.2 (show decode cJ0_length_8abf5 10 = .ok (.ireturn, 1) by decide +kernel) B.notSynchronized
def j_ce (c : Int32) : Int32 := if c < 0 then 0 else if 255 < c then 0 else 1
set_option maxHeartbeats 1000000 in
theorem j_canEncode {l : Launch} {sz kA vA : Nat} (c : Int32) : Met l yJ1_canEncode_9a6ad (j_ws yJ1_canEncode_9a6ad cJ1_canEncode_9a6ad 1 (some .boolean)) (g_rmd 0 0 0) (j_Pc sz kA vA [.int c]) (j_Qc (j_ce c)) 0 0 (g_A sz) := by
  refine Met.ofW (cc := cJ1_canEncode_9a6ad) (maxL := 1) (ret := some .boolean) (by decide) rfl ?_
  intro p e s m args below meth c9 s₁ B hml hv
  obtain ⟨rfl, hJ⟩ := hv
  have hts0 := atoms_spec (ws := j_ws yJ1_canEncode_9a6ad cJ1_canEncode_9a6ad 1 (some .boolean)) B.pre
  have hts : ∀ w ∈ g_wk, w.before ([.int c] : List Value).toArray s = true := fun w hw => hts0 w (List.mem_cons_of_mem _ hw)
  have hown : s.vm.findClass RJ1 = some m.cls := findClass_of_methodNamed B.named
  have hl := lv_entry ([.int c] : List Value) (n := 1) (Nat.le_of_ble_eq_true rfl)
  rw [lg_entry_eq]
  generalize (lg_sl [.int c] ++ List.replicate (1 - (lg_sl [.int c]).length) Slot.unset).toArray = ls at hl ⊢
  have hl : lv_has ls 1 (lv_args 0 [.int c]) := hl
  have hCF : CallFix p m c9 cJ1_canEncode_9a6ad 1 s ([.int c] : List Value).toArray g_wk RJ1 := ⟨B.exec, B.bytes, hml, hown, hts⟩
  have hS : va_S (g_A sz) s.heap s.heap [] := va_S.rf
  refine lv_iload_n B.exec B.bytes (show decode cJ1_canEncode_9a6ad 0 = .ok (.iload_n 0, 1) by decide +kernel) rfl (lv_at hl 0 rfl) ?_
  refine lv_if_lt B.exec B.bytes (show decode cJ1_canEncode_9a6ad 1 = .ok (.ifCond .lt 14, 3) by decide +kernel) (tgt := 15) rfl (fun h1 => ?_) (fun h1 => ?_)
  · have e : j_ce c = 0 := if_pos h1
    rw [e]
    refine lv_iconst B.exec B.bytes (show decode cJ1_canEncode_9a6ad 15 = .ok (.iconst 0, 1) by decide +kernel) rfl ?_
    exact W.zret B.exec B.bytes B.returns rfl (fun t ht hW => ⟨rfl, ht⟩) hS.2.2 (show decode cJ1_canEncode_9a6ad 16 = .ok (.ireturn, 1) by decide +kernel) B.notSynchronized
  · skip
    refine lv_iload_n B.exec B.bytes (show decode cJ1_canEncode_9a6ad 4 = .ok (.iload_n 0, 1) by decide +kernel) rfl (lv_at hl 0 rfl) ?_
    refine lv_sipush B.exec B.bytes (show decode cJ1_canEncode_9a6ad 5 = .ok (.sipush 255, 3) by decide +kernel) (v := 255) rfl ?_
    refine lv_icmp_gt B.exec B.bytes (show decode cJ1_canEncode_9a6ad 8 = .ok (.if_icmp .gt 7, 3) by decide +kernel) (tgt := 15) rfl (fun h2 => ?_) (fun h2 => ?_)
    · have e : j_ce c = 0 := by
        unfold j_ce
        rw [if_neg h1, if_pos h2]
      rw [e]
      refine lv_iconst B.exec B.bytes (show decode cJ1_canEncode_9a6ad 15 = .ok (.iconst 0, 1) by decide +kernel) rfl ?_
      exact W.zret B.exec B.bytes B.returns rfl (fun t ht hW => ⟨rfl, ht⟩) hS.2.2 (show decode cJ1_canEncode_9a6ad 16 = .ok (.ireturn, 1) by decide +kernel) B.notSynchronized
    · have e : j_ce c = 1 := by
        unfold j_ce
        rw [if_neg h1, if_neg h2]
      rw [e]
      refine lv_iconst B.exec B.bytes (show decode cJ1_canEncode_9a6ad 11 = .ok (.iconst 1, 1) by decide +kernel) rfl ?_
      refine lv_goto B.exec B.bytes (show decode cJ1_canEncode_9a6ad 12 = .ok (.goto 4, 3) by decide +kernel) (tgt := 16) rfl ?_
      exact W.zret B.exec B.bytes B.returns rfl (fun t ht hW => ⟨rfl, ht⟩) hS.2.2 (show decode cJ1_canEncode_9a6ad 16 = .ok (.ireturn, 1) by decide +kernel) B.notSynchronized
def j_ix (cb : Int32) : List Int32 → Nat → Int32
  | [], _ => -1
  | b :: l, k => if b = cb then Int32.ofNat k else j_ix cb l (k + 1)
set_option maxHeartbeats 1000000 in
theorem j_loop {p : Program} {l : Launch} {e : Env} {R : Room} {s : State} {m : MethodId} {args : Array Value} {below : List Frame} {meth : Method} {c : Code} {H : Heap} {locs : List Loc} {cells slots : Nat} {Qc : Array Value → State → Outcome → State → Prop} {free : Addr → Prop} {sz vA : Nat} (hx : p.tables.exec = Jvm.exec) (hb : c.code = cJ1_indexOfChar_4cfef) (hr : meth.sig.returnType = some .int) (hlocks : meth.locks = false) (hT : va_T .byte vA 15 (fun j => .int (j_by.getD j 0)) (g_A sz) s s.heap) (hS : va_S (g_A sz) s.heap H locs) (hf : ∀ q ∈ locs, free q.base) {x cb z3 : Int32} :
    ∀ (r : List Int32) (k : Nat) (ls : Array Slot), k + r.length = 15 → j_by.drop k = r → lv_has ls 6 [(5, .int (Int32.ofNat k)), (4, .int cb), (0, .ref vA), (1, .int x), (2, .int z3), (3, .int 15)] → (∀ t : State, t.heap = H → s.WarmedH t.vm → Qc args s (.returned (some (.int (j_ix cb r k)))) t) → W p l e R s m args below meth c H locs cells slots (MQ below Qc args s cells slots free) (F0 m 7 ls []) := by
  intro r
  induction r with
  | nil =>
    intro k ls hk hd hl hq
    have hk : k = 15 := by simpa using hk
    subst hk
    refine lv_iload hx hb (show decode cJ1_indexOfChar_4cfef 7 = .ok (.iload 5, 2) by decide +kernel) (lv_at hl 0 rfl) ?_
    refine lv_iload_n hx hb (show decode cJ1_indexOfChar_4cfef 9 = .ok (.iload_n 3, 1) by decide +kernel) rfl (lv_at hl 5 rfl) ?_
    refine lv_icmp_ge hx hb (show decode cJ1_indexOfChar_4cfef 10 = .ok (.if_icmp .ge 21, 3) by decide +kernel) (tgt := 31) rfl (fun h => ?_) (fun h => absurd (by decide) h)
    refine lv_iconst hx hb (show decode cJ1_indexOfChar_4cfef 31 = .ok (.iconst (-1), 1) by decide +kernel) rfl ?_
    exact W.iret hx hb hr hq hf (show decode cJ1_indexOfChar_4cfef 32 = .ok (.ireturn, 1) by decide +kernel) hlocks
  | cons b r ih =>
    intro k ls hk hd hl hq
    have hk15 : k < 15 := by simp at hk; omega
    have hbk : j_by.getD k 0 = b := by
      have h1 : j_by[k]? = some b := by
        have := congrArg List.head? hd
        simpa [List.head?_drop] using this
      simp [List.getD, h1]
    have hd2 : j_by.drop (k + 1) = r := by
      have := congrArg List.tail hd
      simpa [List.tail_drop] using this
    have ek : (Int32.ofNat k).toNatClampNeg = k := by
      show (Int32.ofNat k).toInt.toNat = k
      have : (Int32.ofNat k).toInt = (k : Int) := Int32.toInt_ofNat_of_lt (by omega)
      rw [this]
      omega
    have ekI : (Int32.ofNat k).toInt = (k : Int) := Int32.toInt_ofNat_of_lt (by omega)
    refine lv_iload hx hb (show decode cJ1_indexOfChar_4cfef 7 = .ok (.iload 5, 2) by decide +kernel) (lv_at hl 0 rfl) ?_
    refine lv_iload_n hx hb (show decode cJ1_indexOfChar_4cfef 9 = .ok (.iload_n 3, 1) by decide +kernel) rfl (lv_at hl 5 rfl) ?_
    refine lv_icmp_ge hx hb (show decode cJ1_indexOfChar_4cfef 10 = .ok (.if_icmp .ge 21, 3) by decide +kernel) (tgt := 31) rfl (fun h => ?_) (fun h => ?_)
    · exfalso
      have h := Int32.le_iff_toInt_le.mp h
      rw [ekI] at h
      have e15 : (15 : Int32).toInt = 15 := rfl
      omega
    · refine lv_aload_n hx hb (show decode cJ1_indexOfChar_4cfef 13 = .ok (.aload_n 0, 1) by decide +kernel) rfl (lv_at hl 2 rfl) ?_
      refine lv_iload hx hb (show decode cJ1_indexOfChar_4cfef 14 = .ok (.iload 5, 2) by decide +kernel) (lv_at hl 0 rfl) ?_
      refine va_tb hx hb hT hS (i := Int32.ofNat k) (v := .int b) ?_ ?_ (show decode cJ1_indexOfChar_4cfef 16 = .ok (.baload, 1) by decide +kernel) ?_
      · rintro (h | h)
        · have h := Int32.lt_iff_toInt_lt.mp h
          rw [ekI] at h
          have e0 : (0 : Int32).toInt = 0 := rfl
          omega
        · rw [ek] at h
          omega
      · show Value.int (j_by.getD (Int32.ofNat k).toNatClampNeg 0) = Value.int b
        rw [ek, hbk]
      · refine lv_iload hx hb (show decode cJ1_indexOfChar_4cfef 17 = .ok (.iload 4, 2) by decide +kernel) (lv_at hl 1 rfl) ?_
        refine lv_icmp_ne hx hb (show decode cJ1_indexOfChar_4cfef 19 = .ok (.if_icmp .ne 6, 3) by decide +kernel) (tgt := 25) rfl (fun h => ?_) (fun h => ?_)
        · have h9 : ¬ b = cb := fun e => h e
          refine lv_iinc hx hb (show decode cJ1_indexOfChar_4cfef 25 = .ok (.iinc 5 1, 3) by decide +kernel) hl (k := 0) rfl (v := Int32.ofNat (k + 1)) ?_ (by decide) rfl (fun ls' hl' => ?_)
          · show Int32.ofNat k + Int32.ofInt 1 = Int32.ofNat (k + 1)
            rw [Int32.ofNat_add]
            rfl
          · refine lv_goto hx hb (show decode cJ1_indexOfChar_4cfef 28 = .ok (.goto (-21), 3) by decide +kernel) (tgt := 7) rfl ?_
            refine ih (k + 1) ls' (by simp at hk; omega) hd2 hl' ?_
            have e : j_ix cb (b :: r) k = j_ix cb r (k + 1) := by
              show (if b = cb then Int32.ofNat k else j_ix cb r (k + 1)) = _
              rw [if_neg h9]
            rw [e] at hq
            exact hq
        · have h9 : b = cb := h
          refine lv_iload hx hb (show decode cJ1_indexOfChar_4cfef 22 = .ok (.iload 5, 2) by decide +kernel) (lv_at hl 0 rfl) ?_
          have e : j_ix cb (b :: r) k = Int32.ofNat k := by
            show (if b = cb then Int32.ofNat k else j_ix cb r (k + 1)) = _
            rw [if_pos h9]
          rw [e] at hq
          exact W.iret hx hb hr hq hf (show decode cJ1_indexOfChar_4cfef 24 = .ok (.ireturn, 1) by decide +kernel) hlocks
set_option maxHeartbeats 1000000 in
theorem j_indexOfChar {l : Launch} {sz kA vA : Nat} (x : Int32) : Met l yJ1_indexOfChar_4cfef (j_ws yJ1_indexOfChar_4cfef cJ1_indexOfChar_4cfef 6 (some .int)) (g_rmd 0 0 0) (j_Pc sz kA vA [.ref vA, .int x, .int 0, .int 15]) (j_Qc (j_ix x.toInt8.toInt32 j_by 0)) 0 0 (g_A sz) := by
  refine Met.ofW (cc := cJ1_indexOfChar_4cfef) (maxL := 6) (ret := some .int) (by decide) rfl ?_
  intro p e s m args below meth c s₁ B hml hv
  obtain ⟨rfl, hJ⟩ := hv
  have hts0 := atoms_spec (ws := j_ws yJ1_indexOfChar_4cfef cJ1_indexOfChar_4cfef 6 (some .int)) B.pre
  have hts : ∀ w ∈ g_wk, w.before ([.ref vA, .int x, .int 0, .int 15] : List Value).toArray s = true := fun w hw => hts0 w (List.mem_cons_of_mem _ hw)
  have hown : s.vm.findClass RJ1 = some m.cls := findClass_of_methodNamed B.named
  have hl := lv_entry ([.ref vA, .int x, .int 0, .int 15] : List Value) (n := 6) (Nat.le_of_ble_eq_true rfl)
  rw [lg_entry_eq]
  generalize (lg_sl [.ref vA, .int x, .int 0, .int 15] ++ List.replicate (6 - (lg_sl [.ref vA, .int x, .int 0, .int 15]).length) Slot.unset).toArray = ls at hl ⊢
  have hl : lv_has ls 6 (lv_args 0 [.ref vA, .int x, .int 0, .int 15]) := hl
  have hCF : CallFix p m c cJ1_indexOfChar_4cfef 6 s ([.ref vA, .int x, .int 0, .int 15] : List Value).toArray g_wk RJ1 := ⟨B.exec, B.bytes, hml, hown, hts⟩
  have hS : va_S (g_A sz) s.heap s.heap [] := va_S.rf
  refine lv_iload_n B.exec B.bytes (show decode cJ1_indexOfChar_4cfef 0 = .ok (.iload_n 1, 1) by decide +kernel) rfl (lv_at hl 1 rfl) ?_
  refine lv_i2b B.exec B.bytes (show decode cJ1_indexOfChar_4cfef 1 = .ok (.i2b, 1) by decide +kernel) rfl ?_
  refine lv_istore B.exec B.bytes (show decode cJ1_indexOfChar_4cfef 2 = .ok (.istore 4, 2) by decide +kernel) hl (by decide) rfl (fun ls1 hl1 => ?_)
  refine lv_iload_n B.exec B.bytes (show decode cJ1_indexOfChar_4cfef 4 = .ok (.iload_n 2, 1) by decide +kernel) rfl (lv_at hl1 3 rfl) ?_
  refine lv_istore B.exec B.bytes (show decode cJ1_indexOfChar_4cfef 5 = .ok (.istore 5, 2) by decide +kernel) hl1 (by decide) rfl (fun ls2 hl2 => ?_)
  exact j_loop B.exec B.bytes B.returns B.notSynchronized hJ.2.2.2.1 hS hS.2.2 j_by 0 ls2 rfl rfl hl2 (fun t ht hW => ⟨rfl, ht⟩)
def j_lx (x : Int32) : Int32 := if j_ce x = 0 then -1 else j_ix x.toInt8.toInt32 j_by 0
set_option maxHeartbeats 1000000 in
theorem j_lIndexOf {l : Launch} {sz kA vA : Nat} (x : Int32) : Met l yJ1_indexOf_4cfef (j_ws yJ1_indexOf_4cfef cJ1_indexOf_4cfef 4 (some .int)) (g_rmd 1 0 0) (j_Pc sz kA vA [.ref vA, .int x, .int 0, .int 15]) (j_Qc (j_lx x)) 0 0 (g_A sz) := by
  refine Met.ofW (cc := cJ1_indexOf_4cfef) (maxL := 4) (ret := some .int) (by decide) rfl ?_
  intro p e s m args below meth c s₁ B hml hv
  obtain ⟨rfl, hJ⟩ := hv
  have hts0 := atoms_spec (ws := j_ws yJ1_indexOf_4cfef cJ1_indexOf_4cfef 4 (some .int)) B.pre
  have hts : ∀ w ∈ g_wk, w.before ([.ref vA, .int x, .int 0, .int 15] : List Value).toArray s = true := fun w hw => hts0 w (List.mem_cons_of_mem _ hw)
  have hown : s.vm.findClass RJ1 = some m.cls := findClass_of_methodNamed B.named
  have hl := lv_entry ([.ref vA, .int x, .int 0, .int 15] : List Value) (n := 4) (Nat.le_of_ble_eq_true rfl)
  rw [lg_entry_eq]
  generalize (lg_sl [.ref vA, .int x, .int 0, .int 15] ++ List.replicate (4 - (lg_sl [.ref vA, .int x, .int 0, .int 15]).length) Slot.unset).toArray = ls at hl ⊢
  have hl : lv_has ls 4 (lv_args 0 [.ref vA, .int x, .int 0, .int 15]) := hl
  have hCF : CallFix p m c cJ1_indexOf_4cfef 4 s ([.ref vA, .int x, .int 0, .int 15] : List Value).toArray g_wk RJ1 := ⟨B.exec, B.bytes, hml, hown, hts⟩
  have hS : va_S (g_A sz) s.heap s.heap [] := va_S.rf
  refine lv_iload_n B.exec B.bytes (show decode cJ1_indexOf_4cfef 0 = .ok (.iload_n 1, 1) by decide +kernel) rfl (lv_at hl 1 rfl) ?_
  refine j_callW (va_runS (As := [.int x]) (rest := []) hCF (j_canEncode (l := l) (sz := sz) (kA := kA) (vA := vA) x) ⟨callB_of 1 hts (j_good (j_in3 (j := 148) rfl rfl)) rfl rfl rfl (hts _ (j_in1 (j := 16) rfl rfl)) (hts _ (j_in3 (j := 146) rfl rfl)) (by decide) ⟨Nat.le_of_ble_eq_true rfl, Nat.le_of_ble_eq_true rfl⟩, hts _ (j_in3 (j := 147) rfl rfl)⟩ (j_pre hJ hS) rfl rfl hl.1 rfl (lv_room (Nat.le_of_ble_eq_true rfl)) (show decode cJ1_indexOf_4cfef 1 = .ok (.invokestatic 88, 3) by decide +kernel) ⟨Nat.le_of_ble_eq_true rfl, Nat.le_of_ble_eq_true rfl⟩) hS (fun locs1 hS1 => ?_)
  refine lv_if_ne B.exec B.bytes (show decode cJ1_indexOf_4cfef 4 = .ok (.ifCond .ne 5, 3) by decide +kernel) (tgt := 9) rfl (fun h4 => ?_) (fun h4 => ?_)
  · have e9 : j_lx x = j_ix x.toInt8.toInt32 j_by 0 := if_neg h4
    rw [e9]
    refine lv_iload_n B.exec B.bytes (show decode cJ1_indexOf_4cfef 9 = .ok (.iload_n 2, 1) by decide +kernel) rfl (lv_at hl 2 rfl) ?_
    refine lv_iconst B.exec B.bytes (show decode cJ1_indexOf_4cfef 10 = .ok (.iconst 0, 1) by decide +kernel) rfl ?_
    refine va_mmax B.exec B.bytes (hml.trans hl.1.symm) hown (hts _ (j_in3 (j := 149) rfl rfl)) (hts _ (j_in3 (j := 150) rfl rfl)) (hts _ (j_in1 (j := 17) rfl rfl)) (hts _ (j_in3 (j := 151) rfl rfl)) (Nat.le_of_ble_eq_true rfl) (Nat.le_of_ble_eq_true rfl) (Nat.le_of_ble_eq_true rfl) (Nat.le_of_ble_eq_true rfl) (show decode cJ1_indexOf_4cfef 11 = .ok (.invokestatic 92, 3) by decide +kernel) ?_
    refine lv_istore_n B.exec B.bytes (show decode cJ1_indexOf_4cfef 14 = .ok (.istore_n 2, 1) by decide +kernel) rfl hl (by decide) rfl (fun ls1 hl1 => ?_)
    refine lv_iload_n B.exec B.bytes (show decode cJ1_indexOf_4cfef 15 = .ok (.iload_n 3, 1) by decide +kernel) rfl (lv_at hl1 3 rfl) ?_
    refine lv_aload_n B.exec B.bytes (show decode cJ1_indexOf_4cfef 16 = .ok (.aload_n 0, 1) by decide +kernel) rfl (lv_at hl1 1 rfl) ?_
    refine va_tlen B.exec B.bytes hJ.2.2.2.1 hS1 (v := 15) rfl (show decode cJ1_indexOf_4cfef 17 = .ok (.arraylength, 1) by decide +kernel) ?_
    refine va_mmin B.exec B.bytes (hml.trans hl1.1.symm) hown (hts _ (j_in3 (j := 152) rfl rfl)) (hts _ (j_in3 (j := 153) rfl rfl)) (hts _ (j_in1 (j := 17) rfl rfl)) (hts _ (j_in3 (j := 154) rfl rfl)) (Nat.le_of_ble_eq_true rfl) (Nat.le_of_ble_eq_true rfl) (Nat.le_of_ble_eq_true rfl) (Nat.le_of_ble_eq_true rfl) (show decode cJ1_indexOf_4cfef 18 = .ok (.invokestatic 38, 3) by decide +kernel) ?_
    refine lv_istore_n B.exec B.bytes (show decode cJ1_indexOf_4cfef 21 = .ok (.istore_n 3, 1) by decide +kernel) rfl hl1 (by decide) rfl (fun ls2 hl2 => ?_)
    have hl2 : lv_has ls2 4 [(3, .int 15), (2, .int 0), (0, .ref vA), (1, .int x)] := hl2
    refine lv_iload_n B.exec B.bytes (show decode cJ1_indexOf_4cfef 22 = .ok (.iload_n 2, 1) by decide +kernel) rfl (lv_at hl2 1 rfl) ?_
    refine lv_iload_n B.exec B.bytes (show decode cJ1_indexOf_4cfef 23 = .ok (.iload_n 3, 1) by decide +kernel) rfl (lv_at hl2 0 rfl) ?_
    refine lv_icmp_lt B.exec B.bytes (show decode cJ1_indexOf_4cfef 24 = .ok (.if_icmp .lt 5, 3) by decide +kernel) (tgt := 29) rfl (fun h24 => ?_) (fun h24 => ?_)
    · skip
      refine lv_aload_n B.exec B.bytes (show decode cJ1_indexOf_4cfef 29 = .ok (.aload_n 0, 1) by decide +kernel) rfl (lv_at hl2 2 rfl) ?_
      refine lv_iload_n B.exec B.bytes (show decode cJ1_indexOf_4cfef 30 = .ok (.iload_n 1, 1) by decide +kernel) rfl (lv_at hl2 3 rfl) ?_
      refine lv_iload_n B.exec B.bytes (show decode cJ1_indexOf_4cfef 31 = .ok (.iload_n 2, 1) by decide +kernel) rfl (lv_at hl2 1 rfl) ?_
      refine lv_iload_n B.exec B.bytes (show decode cJ1_indexOf_4cfef 32 = .ok (.iload_n 3, 1) by decide +kernel) rfl (lv_at hl2 0 rfl) ?_
      refine j_callW (va_runS (As := [.ref vA, .int x, .int 0, .int 15]) (rest := []) hCF (j_indexOfChar (l := l) (sz := sz) (kA := kA) (vA := vA) x) ⟨callB_of 4 hts (j_good (j_in3 (j := 157) rfl rfl)) rfl rfl rfl (hts _ (j_in1 (j := 16) rfl rfl)) (hts _ (j_in3 (j := 155) rfl rfl)) (by decide) ⟨Nat.le_of_ble_eq_true rfl, Nat.le_of_ble_eq_true rfl⟩, hts _ (j_in3 (j := 156) rfl rfl)⟩ (j_pre hJ hS1) rfl rfl hl2.1 rfl (lv_room (Nat.le_of_ble_eq_true rfl)) (show decode cJ1_indexOf_4cfef 33 = .ok (.invokestatic 95, 3) by decide +kernel) ⟨Nat.le_of_ble_eq_true rfl, Nat.le_of_ble_eq_true rfl⟩) hS1 (fun locs33 hS33 => ?_)
      exact W.iret B.exec B.bytes B.returns (fun t ht hW => ⟨rfl, ht⟩) hS33.2.2 (show decode cJ1_indexOf_4cfef 36 = .ok (.ireturn, 1) by decide +kernel) B.notSynchronized
    · exact absurd (by decide) h24
  · have e9 : j_lx x = -1 := if_pos h4
    rw [e9]
    refine lv_iconst B.exec B.bytes (show decode cJ1_indexOf_4cfef 7 = .ok (.iconst (-1), 1) by decide +kernel) rfl ?_
    exact W.iret B.exec B.bytes B.returns (fun t ht hW => ⟨rfl, ht⟩) hS1.2.2 (show decode cJ1_indexOf_4cfef 8 = .ok (.ireturn, 1) by decide +kernel) B.notSynchronized
set_option maxHeartbeats 1000000 in
theorem j_indexOf2 {l : Launch} {sz kA vA : Nat} (x : Int32) : Met l yJ0_indexOf_7cf53 (j_ws yJ0_indexOf_7cf53 cJ0_indexOf_7cf53 3 (some .int)) (g_rmd 2 0 0) (j_Pc sz kA vA [.ref kA, .int x, .int 0]) (j_Qc (j_lx x)) 0 0 (g_A sz) := by
  refine Met.ofW (cc := cJ0_indexOf_7cf53) (maxL := 3) (ret := some .int) (by decide) rfl ?_
  intro p e s m args below meth c s₁ B hml hv
  obtain ⟨rfl, hJ⟩ := hv
  have hts0 := atoms_spec (ws := j_ws yJ0_indexOf_7cf53 cJ0_indexOf_7cf53 3 (some .int)) B.pre
  have hts : ∀ w ∈ g_wk, w.before ([.ref kA, .int x, .int 0] : List Value).toArray s = true := fun w hw => hts0 w (List.mem_cons_of_mem _ hw)
  have hown : s.vm.findClass RJ0 = some m.cls := findClass_of_methodNamed B.named
  have hl := lv_entry ([.ref kA, .int x, .int 0] : List Value) (n := 3) (Nat.le_of_ble_eq_true rfl)
  rw [lg_entry_eq]
  generalize (lg_sl [.ref kA, .int x, .int 0] ++ List.replicate (3 - (lg_sl [.ref kA, .int x, .int 0]).length) Slot.unset).toArray = ls at hl ⊢
  have hl : lv_has ls 3 (lv_args 0 [.ref kA, .int x, .int 0]) := hl
  have hCF : CallFix p m c cJ0_indexOf_7cf53 3 s ([.ref kA, .int x, .int 0] : List Value).toArray g_wk RJ0 := ⟨B.exec, B.bytes, hml, hown, hts⟩
  have hS : va_S (g_A sz) s.heap s.heap [] := va_S.rf
  refine lv_aload_n B.exec B.bytes (show decode cJ0_indexOf_7cf53 0 = .ok (.aload_n 0, 1) by decide +kernel) rfl (lv_at hl 0 rfl) ?_
  refine j_callW (va_runV (C := "java/lang/String") (b := kA) (As := []) (rest := []) hCF (j_isLatin1 (l := l) (sz := sz) (kA := kA) (vA := vA)) ⟨callB_of 0 hts (j_good (j_in3 (j := 132) rfl rfl)) rfl rfl rfl (hts _ (j_in1 (j := 15) rfl rfl)) (hts _ (j_in3 (j := 129) rfl rfl)) (by decide) ⟨Nat.le_of_ble_eq_true rfl, Nat.le_of_ble_eq_true rfl⟩, hts _ (j_in3 (j := 130) rfl rfl), hts _ (j_in3 (j := 131) rfl rfl)⟩ (j_preV hJ hS) rfl rfl hl.1 rfl (lv_room (Nat.le_of_ble_eq_true rfl)) (show decode cJ0_indexOf_7cf53 1 = .ok (.invokevirtual 492, 3) by decide +kernel) ⟨Nat.le_of_ble_eq_true rfl, Nat.le_of_ble_eq_true rfl⟩) hS (fun locs1 hS1 => ?_)
  refine lv_if_eq B.exec B.bytes (show decode cJ0_indexOf_7cf53 4 = .ok (.ifCond .eq 19, 3) by decide +kernel) (tgt := 23) rfl (fun h4 => ?_) (fun h4 => ?_)
  · exact absurd h4 (by decide)
  · skip
    refine lv_aload_n B.exec B.bytes (show decode cJ0_indexOf_7cf53 7 = .ok (.aload_n 0, 1) by decide +kernel) rfl (lv_at hl 0 rfl) ?_
    refine vk_getf B.exec B.bytes hJ.2.2.1 hS1 hown (hts _ (j_in9 (j := 205) rfl rfl)) (fun _ h => h) (show decode cJ0_indexOf_7cf53 8 = .ok (.getfield 9, 3) by decide +kernel) ?_
    refine lv_iload_n B.exec B.bytes (show decode cJ0_indexOf_7cf53 11 = .ok (.iload_n 1, 1) by decide +kernel) rfl (lv_at hl 1 rfl) ?_
    refine lv_iload_n B.exec B.bytes (show decode cJ0_indexOf_7cf53 12 = .ok (.iload_n 2, 1) by decide +kernel) rfl (lv_at hl 2 rfl) ?_
    refine lv_aload_n B.exec B.bytes (show decode cJ0_indexOf_7cf53 13 = .ok (.aload_n 0, 1) by decide +kernel) rfl (lv_at hl 0 rfl) ?_
    refine j_callW (va_runV (C := "java/lang/String") (b := kA) (As := []) (rest := [.int 0, .int x, .ref vA]) hCF (j_length (l := l) (sz := sz) (kA := kA) (vA := vA)) ⟨callB_of 0 hts (j_good (j_in3 (j := 138) rfl rfl)) rfl rfl rfl (hts _ (j_in1 (j := 15) rfl rfl)) (hts _ (j_in3 (j := 135) rfl rfl)) (by decide) ⟨Nat.le_of_ble_eq_true rfl, Nat.le_of_ble_eq_true rfl⟩, hts _ (j_in3 (j := 136) rfl rfl), hts _ (j_in3 (j := 137) rfl rfl)⟩ (j_preV hJ hS1) rfl rfl hl.1 rfl (lv_room (Nat.le_of_ble_eq_true rfl)) (show decode cJ0_indexOf_7cf53 14 = .ok (.invokevirtual 505, 3) by decide +kernel) ⟨Nat.le_of_ble_eq_true rfl, Nat.le_of_ble_eq_true rfl⟩) hS1 (fun locs14 hS14 => ?_)
    refine j_callW (va_runS (As := [.ref vA, .int x, .int 0, .int 15]) (rest := []) hCF (j_lIndexOf (l := l) (sz := sz) (kA := kA) (vA := vA) x) ⟨callB_of 4 hts (j_good (j_in3 (j := 145) rfl rfl)) rfl rfl rfl (hts _ (j_in1 (j := 16) rfl rfl)) (hts _ (j_in3 (j := 143) rfl rfl)) (by decide) ⟨Nat.le_of_ble_eq_true rfl, Nat.le_of_ble_eq_true rfl⟩, hts _ (j_in3 (j := 144) rfl rfl)⟩ (j_pre hJ hS14) rfl rfl hl.1 rfl (lv_room (Nat.le_of_ble_eq_true rfl)) (show decode cJ0_indexOf_7cf53 17 = .ok (.invokestatic 637, 3) by decide +kernel) ⟨Nat.le_of_ble_eq_true rfl, Nat.le_of_ble_eq_true rfl⟩) hS14 (fun locs17 hS17 => ?_)
    refine lv_goto B.exec B.bytes (show decode cJ0_indexOf_7cf53 20 = .ok (.goto 16, 3) by decide +kernel) (tgt := 36) rfl ?_
    exact W.iret B.exec B.bytes B.returns (fun t ht hW => ⟨rfl, ht⟩) hS17.2.2 (show decode cJ0_indexOf_7cf53 36 = .ok (.ireturn, 1) by decide +kernel) B.notSynchronized
set_option maxHeartbeats 1000000 in
theorem j_indexOf1 {l : Launch} {sz kA vA : Nat} (x : Int32) : Met l yJ0_indexOf_0f7a4 (j_ws yJ0_indexOf_0f7a4 cJ0_indexOf_0f7a4 2 (some .int)) (g_rmd 3 0 0) (j_Pc sz kA vA [.ref kA, .int x]) (j_Qc (j_lx x)) 0 0 (g_A sz) := by
  refine Met.ofW (cc := cJ0_indexOf_0f7a4) (maxL := 2) (ret := some .int) (by decide) rfl ?_
  intro p e s m args below meth c s₁ B hml hv
  obtain ⟨rfl, hJ⟩ := hv
  have hts0 := atoms_spec (ws := j_ws yJ0_indexOf_0f7a4 cJ0_indexOf_0f7a4 2 (some .int)) B.pre
  have hts : ∀ w ∈ g_wk, w.before ([.ref kA, .int x] : List Value).toArray s = true := fun w hw => hts0 w (List.mem_cons_of_mem _ hw)
  have hown : s.vm.findClass RJ0 = some m.cls := findClass_of_methodNamed B.named
  have hl := lv_entry ([.ref kA, .int x] : List Value) (n := 2) (Nat.le_of_ble_eq_true rfl)
  rw [lg_entry_eq]
  generalize (lg_sl [.ref kA, .int x] ++ List.replicate (2 - (lg_sl [.ref kA, .int x]).length) Slot.unset).toArray = ls at hl ⊢
  have hl : lv_has ls 2 (lv_args 0 [.ref kA, .int x]) := hl
  have hCF : CallFix p m c cJ0_indexOf_0f7a4 2 s ([.ref kA, .int x] : List Value).toArray g_wk RJ0 := ⟨B.exec, B.bytes, hml, hown, hts⟩
  have hS : va_S (g_A sz) s.heap s.heap [] := va_S.rf
  refine lv_aload_n B.exec B.bytes (show decode cJ0_indexOf_0f7a4 0 = .ok (.aload_n 0, 1) by decide +kernel) rfl (lv_at hl 0 rfl) ?_
  refine lv_iload_n B.exec B.bytes (show decode cJ0_indexOf_0f7a4 1 = .ok (.iload_n 1, 1) by decide +kernel) rfl (lv_at hl 1 rfl) ?_
  refine lv_iconst B.exec B.bytes (show decode cJ0_indexOf_0f7a4 2 = .ok (.iconst 0, 1) by decide +kernel) rfl ?_
  refine j_callW (va_runV (C := "java/lang/String") (b := kA) (As := [.int x, .int 0]) (rest := []) hCF (j_indexOf2 (l := l) (sz := sz) (kA := kA) (vA := vA) x) ⟨callB_of 2 hts (j_good (j_in3 (j := 128) rfl rfl)) rfl rfl rfl (hts _ (j_in1 (j := 15) rfl rfl)) (hts _ (j_in3 (j := 125) rfl rfl)) (by decide) ⟨Nat.le_of_ble_eq_true rfl, Nat.le_of_ble_eq_true rfl⟩, hts _ (j_in3 (j := 126) rfl rfl), hts _ (j_in3 (j := 127) rfl rfl)⟩ (j_preV hJ hS) rfl rfl hl.1 rfl (lv_room (Nat.le_of_ble_eq_true rfl)) (show decode cJ0_indexOf_0f7a4 3 = .ok (.invokevirtual 633, 3) by decide +kernel) ⟨Nat.le_of_ble_eq_true rfl, Nat.le_of_ble_eq_true rfl⟩) hS (fun locs3 hS3 => ?_)
  exact W.iret B.exec B.bytes B.returns (fun t ht hW => ⟨rfl, ht⟩) hS3.2.2 (show decode cJ0_indexOf_0f7a4 6 = .ok (.ireturn, 1) by decide +kernel) B.notSynchronized
theorem j_lx_eq0 : ∀ i : Fin 256, j_ix (Int32.ofInt ((i : Nat) : Int)).toInt8.toInt32 j_by 0 = g_ixF (Int32.ofInt ((i : Nat) : Int)) j_by 0 := by decide +kernel
theorem j_ixF_out {c : Int32} : ∀ {l : List Int32} {k : Int32}, (∀ b ∈ l, ¬ b = c) → g_ixF c l k = -1
  | [], _, _ => rfl
  | b :: l, k, h => by
    show (if b = c then k else g_ixF c l (k + 1)) = -1
    rw [if_neg (h b List.mem_cons_self)]
    exact j_ixF_out (fun b hb => h b (List.mem_cons_of_mem _ hb))
theorem j_by_b : ∀ b ∈ j_by, 0 ≤ b.toInt ∧ b.toInt ≤ 255 := by decide
theorem j_lx_eq (x : Int32) : j_lx x = g_ixF x j_by 0 := by
  have e0 : (0 : Int32).toInt = 0 := rfl
  have e255 : (255 : Int32).toInt = 255 := rfl
  unfold j_lx j_ce
  by_cases h1 : x < 0
  · rw [if_pos h1, if_pos rfl]
    have h1 := Int32.lt_iff_toInt_lt.mp h1
    exact (j_ixF_out (fun b hb e => by have := j_by_b b hb; rw [e] at this; omega)).symm
  · rw [if_neg h1]
    by_cases h2 : 255 < x
    · rw [if_pos h2, if_pos rfl]
      have h2 := Int32.lt_iff_toInt_lt.mp h2
      exact (j_ixF_out (fun b hb e => by have := j_by_b b hb; rw [e] at this; omega)).symm
    · rw [if_neg h2, if_neg (by decide)]
      have h1 : ¬ x.toInt < 0 := fun h => h1 (Int32.lt_iff_toInt_lt.mpr h)
      have h2 : ¬ (255 : Int) < x.toInt := fun h => h2 (Int32.lt_iff_toInt_lt.mpr h)
      have k := j_lx_eq0 ⟨x.toInt.toNat, by omega⟩
      dsimp only at k
      rw [show ((x.toInt.toNat : Nat) : Int) = x.toInt by omega, Int32.ofInt_toInt] at k
      exact k
