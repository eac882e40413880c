section Prt01
-- ===== PART A: goes FIRST, ahead of the names: the tables' words, and 'selects' of the private methods out of them =====
noncomputable def g_nt {α : Type} (l : List α) (i : Nat) : Option α := List.rec (motive := fun _ => Nat → Option α) (fun _ => none) (fun h _ ih i => Nat.casesOn i (some h) (fun j => ih j)) l i
theorem g_nt_eq {α : Type} : ∀ (l : List α) (i : Nat), g_nt l i = l[i]?
  | [], _ => rfl
  | _ :: _, 0 => rfl
  | _ :: t, i + 1 => by
    show g_nt t i = _
    rw [g_nt_eq t i]
    simp
/-- a private method of a class that the tables say can be made, by its rows of tables_1 -/
noncomputable def lw_okq (q : MethodName × Nat) : Prop := (q.1.cls ≠ "java/lang/invoke/MethodHandle" ∧ q.1.cls ≠ "java/lang/invoke/VarHandle") ∧ Cond.instantiable q.1.cls q.2 ∈ tables_1 ∧ Cond.privateMethod q.1 ∈ tables_1 ∧ Cond.instanceMethod q.1 ∈ tables_1
theorem lw_in1 {c : Cond} {j : Nat} (h : g_nt tables_1_1 j = some c) : c ∈ tables_1 := by
  rw [g_nt_eq] at h
  show c ∈ tables_1_1 ++ (tables_1_2 ++ (tables_1_3 ++ (tables_1_4 ++ (tables_1_5 ++ (tables_1_6 ++ (tables_1_7 ++ (tables_1_8 ++ tables_1_9)))))))
  exact List.mem_append_left _ (List.mem_of_getElem? h)
theorem lw_in2 {c : Cond} {j : Nat} (h : g_nt tables_1_2 j = some c) : c ∈ tables_1 := by
  rw [g_nt_eq] at h
  show c ∈ tables_1_1 ++ (tables_1_2 ++ (tables_1_3 ++ (tables_1_4 ++ (tables_1_5 ++ (tables_1_6 ++ (tables_1_7 ++ (tables_1_8 ++ tables_1_9)))))))
  exact List.mem_append_right _ (List.mem_append_left _ (List.mem_of_getElem? h))
theorem lw_in3 {c : Cond} {j : Nat} (h : g_nt tables_1_3 j = some c) : c ∈ tables_1 := by
  rw [g_nt_eq] at h
  show c ∈ tables_1_1 ++ (tables_1_2 ++ (tables_1_3 ++ (tables_1_4 ++ (tables_1_5 ++ (tables_1_6 ++ (tables_1_7 ++ (tables_1_8 ++ tables_1_9)))))))
  exact List.mem_append_right _ (List.mem_append_right _ (List.mem_append_left _ (List.mem_of_getElem? h)))
theorem lw_in4 {c : Cond} {j : Nat} (h : g_nt tables_1_4 j = some c) : c ∈ tables_1 := by
  rw [g_nt_eq] at h
  show c ∈ tables_1_1 ++ (tables_1_2 ++ (tables_1_3 ++ (tables_1_4 ++ (tables_1_5 ++ (tables_1_6 ++ (tables_1_7 ++ (tables_1_8 ++ tables_1_9)))))))
  exact List.mem_append_right _ (List.mem_append_right _ (List.mem_append_right _ (List.mem_append_left _ (List.mem_of_getElem? h))))
theorem lw_in5 {c : Cond} {j : Nat} (h : g_nt tables_1_5 j = some c) : c ∈ tables_1 := by
  rw [g_nt_eq] at h
  show c ∈ tables_1_1 ++ (tables_1_2 ++ (tables_1_3 ++ (tables_1_4 ++ (tables_1_5 ++ (tables_1_6 ++ (tables_1_7 ++ (tables_1_8 ++ tables_1_9)))))))
  exact List.mem_append_right _ (List.mem_append_right _ (List.mem_append_right _ (List.mem_append_right _ (List.mem_append_left _ (List.mem_of_getElem? h)))))
theorem lw_in7 {c : Cond} {j : Nat} (h : g_nt tables_1_7 j = some c) : c ∈ tables_1 := by
  rw [g_nt_eq] at h
  show c ∈ tables_1_1 ++ (tables_1_2 ++ (tables_1_3 ++ (tables_1_4 ++ (tables_1_5 ++ (tables_1_6 ++ (tables_1_7 ++ (tables_1_8 ++ tables_1_9)))))))
  exact List.mem_append_right _ (List.mem_append_right _ (List.mem_append_right _ (List.mem_append_right _ (List.mem_append_right _ (List.mem_append_right _ (List.mem_append_left _ (List.mem_of_getElem? h)))))))
theorem lw_in8 {c : Cond} {j : Nat} (h : g_nt tables_1_8 j = some c) : c ∈ tables_1 := by
  rw [g_nt_eq] at h
  show c ∈ tables_1_1 ++ (tables_1_2 ++ (tables_1_3 ++ (tables_1_4 ++ (tables_1_5 ++ (tables_1_6 ++ (tables_1_7 ++ (tables_1_8 ++ tables_1_9)))))))
  exact List.mem_append_right _ (List.mem_append_right _ (List.mem_append_right _ (List.mem_append_right _ (List.mem_append_right _ (List.mem_append_right _ (List.mem_append_right _ (List.mem_append_left _ (List.mem_of_getElem? h))))))))
theorem lw_in9 {c : Cond} {j : Nat} (h : g_nt tables_1_9 j = some c) : c ∈ tables_1 := by
  rw [g_nt_eq] at h
  show c ∈ tables_1_1 ++ (tables_1_2 ++ (tables_1_3 ++ (tables_1_4 ++ (tables_1_5 ++ (tables_1_6 ++ (tables_1_7 ++ (tables_1_8 ++ tables_1_9)))))))
  exact List.mem_append_right _ (List.mem_append_right _ (List.mem_append_right _ (List.mem_append_right _ (List.mem_append_right _ (List.mem_append_right _ (List.mem_append_right _ (List.mem_append_right _ (List.mem_of_getElem? h))))))))
theorem lw_cn0 : "GustHome" ≠ "java/lang/invoke/MethodHandle" ∧ "GustHome" ≠ "java/lang/invoke/VarHandle" := ⟨by decide +kernel, by decide +kernel⟩
theorem lw_ci0 : Cond.instantiable "GustHome" 15 ∈ tables_1 := lw_in1 (j := 24) rfl
theorem lw_p0 : lw_okq (⟨"GustHome", "wardAt", "(I)LGustHome$Ward;"⟩, 15) := ⟨lw_cn0, lw_ci0, lw_in3 (j := 13) rfl, lw_in3 (j := 14) rfl⟩
theorem lw_cn1 : "GustHome$Reader" ≠ "java/lang/invoke/MethodHandle" ∧ "GustHome$Reader" ≠ "java/lang/invoke/VarHandle" := ⟨by decide +kernel, by decide +kernel⟩
theorem lw_ci1 : Cond.instantiable "GustHome$Reader" 7 ∈ tables_1 := lw_in2 (j := 0) rfl
theorem lw_p1 : lw_okq (⟨"GustHome$Reader", "begin", "(I)V"⟩, 7) := ⟨lw_cn1, lw_ci1, lw_in3 (j := 81) rfl, lw_in3 (j := 82) rfl⟩
theorem lw_p2 : lw_okq (⟨"GustHome$Reader", "readClause", "()V"⟩, 7) := ⟨lw_cn1, lw_ci1, lw_in3 (j := 89) rfl, lw_in3 (j := 90) rfl⟩
theorem lw_p3 : lw_okq (⟨"GustHome$Reader", "here", "()I"⟩, 7) := ⟨lw_cn1, lw_ci1, lw_in3 (j := 93) rfl, lw_in3 (j := 94) rfl⟩
theorem lw_p4 : lw_okq (⟨"GustHome$Reader", "fail", "(II)V"⟩, 7) := ⟨lw_cn1, lw_ci1, lw_in3 (j := 101) rfl, lw_in3 (j := 102) rfl⟩
theorem lw_p5 : lw_okq (⟨"GustHome$Reader", "readSum", "(I)V"⟩, 7) := ⟨lw_cn1, lw_ci1, lw_in3 (j := 109) rfl, lw_in3 (j := 110) rfl⟩
theorem lw_p6 : lw_okq (⟨"GustHome$Reader", "readTerm", "(I)V"⟩, 7) := ⟨lw_cn1, lw_ci1, lw_in3 (j := 113) rfl, lw_in3 (j := 114) rfl⟩
theorem lw_p7 : lw_okq (⟨"GustHome$Reader", "readFactor", "(I)V"⟩, 7) := ⟨lw_cn1, lw_ci1, lw_in3 (j := 117) rfl, lw_in3 (j := 118) rfl⟩
theorem lw_p8 : lw_okq (⟨"GustHome$Reader", "opens", "(I)Z"⟩, 7) := ⟨lw_cn1, lw_ci1, lw_in3 (j := 208) rfl, lw_in3 (j := 209) rfl⟩
theorem lw_p9 : lw_okq (⟨"GustHome$Reader", "expect", "(I)V"⟩, 7) := ⟨lw_cn1, lw_ci1, lw_in3 (j := 212) rfl, lw_in3 (j := 213) rfl⟩
theorem lw_p10 : lw_okq (⟨"GustHome$Reader", "readNumber", "()V"⟩, 7) := ⟨lw_cn1, lw_ci1, lw_in3 (j := 216) rfl, lw_in3 (j := 217) rfl⟩
theorem lw_p11 : lw_okq (⟨"GustHome$Reader", "readWhole", "()V"⟩, 7) := ⟨lw_cn1, lw_ci1, lw_in3 (j := 224) rfl, lw_in3 (j := 225) rfl⟩
theorem lw_p12 : lw_okq (⟨"GustHome$Reader", "readBracket", "(I)V"⟩, 7) := ⟨lw_cn1, lw_ci1, lw_in3 (j := 232) rfl, lw_in3 (j := 233) rfl⟩
theorem lw_p13 : lw_okq (⟨"GustHome$Reader", "readCondition", "(I)V"⟩, 7) := ⟨lw_cn1, lw_ci1, lw_in3 (j := 236) rfl, lw_in3 (j := 237) rfl⟩
theorem lw_p14 : lw_okq (⟨"GustHome$Reader", "readPart", "(I)V"⟩, 7) := ⟨lw_cn1, lw_ci1, lw_in4 (j := 0) rfl, lw_in4 (j := 1) rfl⟩
theorem lw_p15 : lw_okq (⟨"GustHome$Reader", "readTest", "(I)V"⟩, 7) := ⟨lw_cn1, lw_ci1, lw_in4 (j := 4) rfl, lw_in4 (j := 5) rfl⟩
noncomputable def lw_privs_1 : List (MethodName × Nat) := [(⟨"GustHome", "wardAt", "(I)LGustHome$Ward;"⟩, 15), (⟨"GustHome$Reader", "begin", "(I)V"⟩, 7), (⟨"GustHome$Reader", "readClause", "()V"⟩, 7), (⟨"GustHome$Reader", "here", "()I"⟩, 7), (⟨"GustHome$Reader", "fail", "(II)V"⟩, 7), (⟨"GustHome$Reader", "readSum", "(I)V"⟩, 7), (⟨"GustHome$Reader", "readTerm", "(I)V"⟩, 7), (⟨"GustHome$Reader", "readFactor", "(I)V"⟩, 7), (⟨"GustHome$Reader", "opens", "(I)Z"⟩, 7), (⟨"GustHome$Reader", "expect", "(I)V"⟩, 7), (⟨"GustHome$Reader", "readNumber", "()V"⟩, 7), (⟨"GustHome$Reader", "readWhole", "()V"⟩, 7), (⟨"GustHome$Reader", "readBracket", "(I)V"⟩, 7), (⟨"GustHome$Reader", "readCondition", "(I)V"⟩, 7), (⟨"GustHome$Reader", "readPart", "(I)V"⟩, 7), (⟨"GustHome$Reader", "readTest", "(I)V"⟩, 7)]
theorem lw_r1 : ∀ q ∈ lw_privs_1, lw_okq q := List.forall_mem_cons.mpr ⟨lw_p0, List.forall_mem_cons.mpr ⟨lw_p1, List.forall_mem_cons.mpr ⟨lw_p2, List.forall_mem_cons.mpr ⟨lw_p3, List.forall_mem_cons.mpr ⟨lw_p4, List.forall_mem_cons.mpr ⟨lw_p5, List.forall_mem_cons.mpr ⟨lw_p6, List.forall_mem_cons.mpr ⟨lw_p7, List.forall_mem_cons.mpr ⟨lw_p8, List.forall_mem_cons.mpr ⟨lw_p9, List.forall_mem_cons.mpr ⟨lw_p10, List.forall_mem_cons.mpr ⟨lw_p11, List.forall_mem_cons.mpr ⟨lw_p12, List.forall_mem_cons.mpr ⟨lw_p13, List.forall_mem_cons.mpr ⟨lw_p14, List.forall_mem_cons.mpr ⟨lw_p15, fun _ h => absurd h List.not_mem_nil⟩⟩⟩⟩⟩⟩⟩⟩⟩⟩⟩⟩⟩⟩⟩⟩
theorem lw_p16 : lw_okq (⟨"GustHome$Reader", "readRule", "()V"⟩, 7) := ⟨lw_cn1, lw_ci1, lw_in4 (j := 16) rfl, lw_in4 (j := 17) rfl⟩
theorem lw_p17 : lw_okq (⟨"GustHome$Reader", "readMonths", "(I)V"⟩, 7) := ⟨lw_cn1, lw_ci1, lw_in4 (j := 45) rfl, lw_in4 (j := 46) rfl⟩
theorem lw_p18 : lw_okq (⟨"GustHome$Reader", "readMonth", "(I)V"⟩, 7) := ⟨lw_cn1, lw_ci1, lw_in4 (j := 49) rfl, lw_in4 (j := 50) rfl⟩
theorem lw_p19 : lw_okq (⟨"GustHome$Reader", "readGroup", "(I)V"⟩, 7) := ⟨lw_cn1, lw_ci1, lw_in4 (j := 53) rfl, lw_in4 (j := 54) rfl⟩
theorem lw_p20 : lw_okq (⟨"GustHome$Reader", "writeMonth", "(I)V"⟩, 7) := ⟨lw_cn1, lw_ci1, lw_in4 (j := 57) rfl, lw_in4 (j := 58) rfl⟩
theorem lw_p21 : lw_okq (⟨"GustHome$Reader", "repeat", "(III)V"⟩, 7) := ⟨lw_cn1, lw_ci1, lw_in4 (j := 61) rfl, lw_in4 (j := 62) rfl⟩
theorem lw_cn2 : "GustHome$Calendar" ≠ "java/lang/invoke/MethodHandle" ∧ "GustHome$Calendar" ≠ "java/lang/invoke/VarHandle" := ⟨by decide +kernel, by decide +kernel⟩
theorem lw_ci2 : Cond.instantiable "GustHome$Calendar" 8 ∈ tables_1 := lw_in2 (j := 32) rfl
theorem lw_p22 : lw_okq (⟨"GustHome$Calendar", "pass", "(LGustHome$State;)V"⟩, 8) := ⟨lw_cn2, lw_ci2, lw_in4 (j := 82) rfl, lw_in4 (j := 83) rfl⟩
theorem lw_p23 : lw_okq (⟨"GustHome$Calendar", "weaken", "(LGustHome$State;)V"⟩, 8) := ⟨lw_cn2, lw_ci2, lw_in4 (j := 86) rfl, lw_in4 (j := 87) rfl⟩
theorem lw_cn3 : "GustHome$Judge" ≠ "java/lang/invoke/MethodHandle" ∧ "GustHome$Judge" ≠ "java/lang/invoke/VarHandle" := ⟨by decide +kernel, by decide +kernel⟩
theorem lw_ci3 : Cond.instantiable "GustHome$Judge" 4 ∈ tables_1 := lw_in1 (j := 185) rfl
theorem lw_p24 : lw_okq (⟨"GustHome$Judge", "lookAtGust", "(LGustHome$State;I)V"⟩, 4) := ⟨lw_cn3, lw_ci3, lw_in4 (j := 95) rfl, lw_in4 (j := 96) rfl⟩
theorem lw_p25 : lw_okq (⟨"GustHome$Judge", "firstAmount", "(II)I"⟩, 4) := ⟨lw_cn3, lw_ci3, lw_in4 (j := 104) rfl, lw_in4 (j := 105) rfl⟩
theorem lw_p26 : lw_okq (⟨"GustHome$Calendar", "strengthen", "(LGustHome$State;II)V"⟩, 8) := ⟨lw_cn2, lw_ci2, lw_in4 (j := 137) rfl, lw_in4 (j := 138) rfl⟩
theorem lw_p27 : lw_okq (⟨"GustHome$Calendar", "teach", "(LGustHome$State;II)V"⟩, 8) := ⟨lw_cn2, lw_ci2, lw_in4 (j := 142) rfl, lw_in4 (j := 143) rfl⟩
theorem lw_p28 : lw_okq (⟨"GustHome$Judge", "anyHolds", "(I)Z"⟩, 4) := ⟨lw_cn3, lw_ci3, lw_in4 (j := 153) rfl, lw_in4 (j := 154) rfl⟩
theorem lw_p29 : lw_okq (⟨"GustHome$Calendar", "breakToys", "(LGustHome$State;)V"⟩, 8) := ⟨lw_cn2, lw_ci2, lw_in4 (j := 157) rfl, lw_in4 (j := 158) rfl⟩
theorem lw_p30 : lw_okq (⟨"GustHome$Calendar", "quarrelAll", "(LGustHome$State;)V"⟩, 8) := ⟨lw_cn2, lw_ci2, lw_in4 (j := 161) rfl, lw_in4 (j := 162) rfl⟩
theorem lw_p31 : lw_okq (⟨"GustHome$Judge", "lookAtTwo", "(LGustHome$State;II)V"⟩, 4) := ⟨lw_cn3, lw_ci3, lw_in4 (j := 169) rfl, lw_in4 (j := 170) rfl⟩
noncomputable def lw_privs_2 : List (MethodName × Nat) := [(⟨"GustHome$Reader", "readRule", "()V"⟩, 7), (⟨"GustHome$Reader", "readMonths", "(I)V"⟩, 7), (⟨"GustHome$Reader", "readMonth", "(I)V"⟩, 7), (⟨"GustHome$Reader", "readGroup", "(I)V"⟩, 7), (⟨"GustHome$Reader", "writeMonth", "(I)V"⟩, 7), (⟨"GustHome$Reader", "repeat", "(III)V"⟩, 7), (⟨"GustHome$Calendar", "pass", "(LGustHome$State;)V"⟩, 8), (⟨"GustHome$Calendar", "weaken", "(LGustHome$State;)V"⟩, 8), (⟨"GustHome$Judge", "lookAtGust", "(LGustHome$State;I)V"⟩, 4), (⟨"GustHome$Judge", "firstAmount", "(II)I"⟩, 4), (⟨"GustHome$Calendar", "strengthen", "(LGustHome$State;II)V"⟩, 8), (⟨"GustHome$Calendar", "teach", "(LGustHome$State;II)V"⟩, 8), (⟨"GustHome$Judge", "anyHolds", "(I)Z"⟩, 4), (⟨"GustHome$Calendar", "breakToys", "(LGustHome$State;)V"⟩, 8), (⟨"GustHome$Calendar", "quarrelAll", "(LGustHome$State;)V"⟩, 8), (⟨"GustHome$Judge", "lookAtTwo", "(LGustHome$State;II)V"⟩, 4)]
theorem lw_r2 : ∀ q ∈ lw_privs_2, lw_okq q := List.forall_mem_cons.mpr ⟨lw_p16, List.forall_mem_cons.mpr ⟨lw_p17, List.forall_mem_cons.mpr ⟨lw_p18, List.forall_mem_cons.mpr ⟨lw_p19, List.forall_mem_cons.mpr ⟨lw_p20, List.forall_mem_cons.mpr ⟨lw_p21, List.forall_mem_cons.mpr ⟨lw_p22, List.forall_mem_cons.mpr ⟨lw_p23, List.forall_mem_cons.mpr ⟨lw_p24, List.forall_mem_cons.mpr ⟨lw_p25, List.forall_mem_cons.mpr ⟨lw_p26, List.forall_mem_cons.mpr ⟨lw_p27, List.forall_mem_cons.mpr ⟨lw_p28, List.forall_mem_cons.mpr ⟨lw_p29, List.forall_mem_cons.mpr ⟨lw_p30, List.forall_mem_cons.mpr ⟨lw_p31, fun _ h => absurd h List.not_mem_nil⟩⟩⟩⟩⟩⟩⟩⟩⟩⟩⟩⟩⟩⟩⟩⟩
theorem lw_p32 : lw_okq (⟨"GustHome$Calendar", "recover", "(LGustHome$State;)V"⟩, 8) := ⟨lw_cn2, lw_ci2, lw_in4 (j := 173) rfl, lw_in4 (j := 174) rfl⟩
theorem lw_p33 : lw_okq (⟨"GustHome$Calendar", "sicken", "(LGustHome$State;II)V"⟩, 8) := ⟨lw_cn2, lw_ci2, lw_in4 (j := 177) rfl, lw_in4 (j := 178) rfl⟩
theorem lw_p34 : lw_okq (⟨"GustHome$Judge", "lookAtWard", "(LGustHome$State;I)V"⟩, 4) := ⟨lw_cn3, lw_ci3, lw_in4 (j := 191) rfl, lw_in4 (j := 192) rfl⟩
theorem lw_p35 : lw_okq (⟨"GustHome$Calendar", "askRules", "(LGustHome$State;)V"⟩, 8) := ⟨lw_cn2, lw_ci2, lw_in4 (j := 198) rfl, lw_in4 (j := 199) rfl⟩
theorem lw_p36 : lw_okq (⟨"GustHome", "chosen", "(III)Z"⟩, 15) := ⟨lw_cn0, lw_ci0, lw_in5 (j := 18) rfl, lw_in5 (j := 19) rfl⟩
theorem lw_cn4 : "GustHome$Planner" ≠ "java/lang/invoke/MethodHandle" ∧ "GustHome$Planner" ≠ "java/lang/invoke/VarHandle" := ⟨by decide +kernel, by decide +kernel⟩
theorem lw_ci4 : Cond.instantiable "GustHome$Planner" 14 ∈ tables_1 := lw_in2 (j := 68) rfl
theorem lw_p37 : lw_okq (⟨"GustHome$Planner", "learnOdds", "(LGustHome$State;)V"⟩, 14) := ⟨lw_cn4, lw_ci4, lw_in5 (j := 31) rfl, lw_in5 (j := 32) rfl⟩
theorem lw_p38 : lw_okq (⟨"GustHome$Planner", "lodgeFrom", "(II)V"⟩, 14) := ⟨lw_cn4, lw_ci4, lw_in5 (j := 37) rfl, lw_in5 (j := 38) rfl⟩
theorem lw_p39 : lw_okq (⟨"GustHome$Planner", "keepRow", "(I)V"⟩, 14) := ⟨lw_cn4, lw_ci4, lw_in5 (j := 41) rfl, lw_in5 (j := 42) rfl⟩
theorem lw_cn5 : "GustHome$Winds" ≠ "java/lang/invoke/MethodHandle" ∧ "GustHome$Winds" ≠ "java/lang/invoke/VarHandle" := ⟨by decide +kernel, by decide +kernel⟩
theorem lw_ci5 : Cond.instantiable "GustHome$Winds" 11 ∈ tables_1 := lw_in2 (j := 118) rfl
theorem lw_p40 : lw_okq (⟨"GustHome$Winds", "sendFrom", "(LGustHome$State;III)V"⟩, 11) := ⟨lw_cn5, lw_ci5, lw_in5 (j := 64) rfl, lw_in5 (j := 65) rfl⟩
theorem lw_p41 : lw_okq (⟨"GustHome$Winds", "mayBeat", "(II)Z"⟩, 11) := ⟨lw_cn5, lw_ci5, lw_in5 (j := 68) rfl, lw_in5 (j := 69) rfl⟩
theorem lw_p42 : lw_okq (⟨"GustHome$Winds", "windOfGale", "(LGustHome$State;I)I"⟩, 11) := ⟨lw_cn5, lw_ci5, lw_in5 (j := 73) rfl, lw_in5 (j := 74) rfl⟩
theorem lw_p43 : lw_okq (⟨"GustHome$Winds", "carries", "(LGustHome$State;II)Z"⟩, 11) := ⟨lw_cn5, lw_ci5, lw_in5 (j := 77) rfl, lw_in5 (j := 78) rfl⟩
theorem lw_p44 : lw_okq (⟨"GustHome", "homesLike", "(II)I"⟩, 15) := ⟨lw_cn0, lw_ci0, lw_in5 (j := 95) rfl, lw_in5 (j := 96) rfl⟩
theorem lw_p45 : lw_okq (⟨"GustHome", "mostTelling", "(II)I"⟩, 15) := ⟨lw_cn0, lw_ci0, lw_in5 (j := 99) rfl, lw_in5 (j := 100) rfl⟩
theorem lw_p46 : lw_okq (⟨"GustHome", "homesWith", "(II)I"⟩, 15) := ⟨lw_cn0, lw_ci0, lw_in5 (j := 103) rfl, lw_in5 (j := 104) rfl⟩
theorem lw_cn6 : "GustHome$School" ≠ "java/lang/invoke/MethodHandle" ∧ "GustHome$School" ≠ "java/lang/invoke/VarHandle" := ⟨by decide +kernel, by decide +kernel⟩
theorem lw_ci6 : Cond.instantiable "GustHome$School" 2 ∈ tables_1 := lw_in1 (j := 169) rfl
theorem lw_p47 : lw_okq (⟨"GustHome$School", "withNeeds", "(II)I"⟩, 2) := ⟨lw_cn6, lw_ci6, lw_in5 (j := 116) rfl, lw_in5 (j := 117) rfl⟩
noncomputable def lw_privs_3 : List (MethodName × Nat) := [(⟨"GustHome$Calendar", "recover", "(LGustHome$State;)V"⟩, 8), (⟨"GustHome$Calendar", "sicken", "(LGustHome$State;II)V"⟩, 8), (⟨"GustHome$Judge", "lookAtWard", "(LGustHome$State;I)V"⟩, 4), (⟨"GustHome$Calendar", "askRules", "(LGustHome$State;)V"⟩, 8), (⟨"GustHome", "chosen", "(III)Z"⟩, 15), (⟨"GustHome$Planner", "learnOdds", "(LGustHome$State;)V"⟩, 14), (⟨"GustHome$Planner", "lodgeFrom", "(II)V"⟩, 14), (⟨"GustHome$Planner", "keepRow", "(I)V"⟩, 14), (⟨"GustHome$Winds", "sendFrom", "(LGustHome$State;III)V"⟩, 11), (⟨"GustHome$Winds", "mayBeat", "(II)Z"⟩, 11), (⟨"GustHome$Winds", "windOfGale", "(LGustHome$State;I)I"⟩, 11), (⟨"GustHome$Winds", "carries", "(LGustHome$State;II)Z"⟩, 11), (⟨"GustHome", "homesLike", "(II)I"⟩, 15), (⟨"GustHome", "mostTelling", "(II)I"⟩, 15), (⟨"GustHome", "homesWith", "(II)I"⟩, 15), (⟨"GustHome$School", "withNeeds", "(II)I"⟩, 2)]
theorem lw_r3 : ∀ q ∈ lw_privs_3, lw_okq q := List.forall_mem_cons.mpr ⟨lw_p32, List.forall_mem_cons.mpr ⟨lw_p33, List.forall_mem_cons.mpr ⟨lw_p34, List.forall_mem_cons.mpr ⟨lw_p35, List.forall_mem_cons.mpr ⟨lw_p36, List.forall_mem_cons.mpr ⟨lw_p37, List.forall_mem_cons.mpr ⟨lw_p38, List.forall_mem_cons.mpr ⟨lw_p39, List.forall_mem_cons.mpr ⟨lw_p40, List.forall_mem_cons.mpr ⟨lw_p41, List.forall_mem_cons.mpr ⟨lw_p42, List.forall_mem_cons.mpr ⟨lw_p43, List.forall_mem_cons.mpr ⟨lw_p44, List.forall_mem_cons.mpr ⟨lw_p45, List.forall_mem_cons.mpr ⟨lw_p46, List.forall_mem_cons.mpr ⟨lw_p47, fun _ h => absurd h List.not_mem_nil⟩⟩⟩⟩⟩⟩⟩⟩⟩⟩⟩⟩⟩⟩⟩⟩
theorem lw_p48 : lw_okq (⟨"GustHome$School", "lowestReady", "(II)I"⟩, 2) := ⟨lw_cn6, lw_ci6, lw_in5 (j := 122) rfl, lw_in5 (j := 123) rfl⟩
theorem lw_cn7 : "GustHome$Houses" ≠ "java/lang/invoke/MethodHandle" ∧ "GustHome$Houses" ≠ "java/lang/invoke/VarHandle" := ⟨by decide +kernel, by decide +kernel⟩
theorem lw_ci7 : Cond.instantiable "GustHome$Houses" 5 ∈ tables_1 := lw_in2 (j := 163) rfl
theorem lw_p49 : lw_okq (⟨"GustHome$Houses", "highest", "(I)I"⟩, 5) := ⟨lw_cn7, lw_ci7, lw_in5 (j := 134) rfl, lw_in5 (j := 135) rfl⟩
theorem lw_p50 : lw_okq (⟨"GustHome$Houses", "higher", "(II)Z"⟩, 5) := ⟨lw_cn7, lw_ci7, lw_in5 (j := 139) rfl, lw_in5 (j := 140) rfl⟩
theorem lw_p51 : lw_okq (⟨"GustHome$Houses", "dearest", "(LGustHome$State;II)I"⟩, 5) := ⟨lw_cn7, lw_ci7, lw_in5 (j := 143) rfl, lw_in5 (j := 144) rfl⟩
theorem lw_p52 : lw_okq (⟨"GustHome$Houses", "dearer", "(LGustHome$State;III)Z"⟩, 5) := ⟨lw_cn7, lw_ci7, lw_in5 (j := 147) rfl, lw_in5 (j := 148) rfl⟩
theorem lw_p53 : lw_okq (⟨"GustHome", "sought", "(IIII)I"⟩, 15) := ⟨lw_cn0, lw_ci0, lw_in5 (j := 171) rfl, lw_in5 (j := 172) rfl⟩
theorem lw_p54 : lw_okq (⟨"GustHome", "sightingsStand", "(I)Z"⟩, 15) := ⟨lw_cn0, lw_ci0, lw_in5 (j := 175) rfl, lw_in5 (j := 176) rfl⟩
theorem lw_p55 : lw_okq (⟨"GustHome", "sightingsAgree", "(II)Z"⟩, 15) := ⟨lw_cn0, lw_ci0, lw_in5 (j := 180) rfl, lw_in5 (j := 181) rfl⟩
theorem lw_p56 : lw_okq (⟨"GustHome$Planner", "staffFrom", "(III)V"⟩, 14) := ⟨lw_cn4, lw_ci4, lw_in5 (j := 197) rfl, lw_in5 (j := 198) rfl⟩
theorem lw_p57 : lw_okq (⟨"GustHome$Planner", "waysOn", "(III)I"⟩, 14) := ⟨lw_cn4, lw_ci4, lw_in5 (j := 209) rfl, lw_in5 (j := 210) rfl⟩
theorem lw_p58 : lw_okq (⟨"GustHome$Planner", "walkFirst", "()V"⟩, 14) := ⟨lw_cn4, lw_ci4, lw_in5 (j := 213) rfl, lw_in5 (j := 214) rfl⟩
theorem lw_p59 : lw_okq (⟨"GustHome$Planner", "firstOn", "(II)I"⟩, 14) := ⟨lw_cn4, lw_ci4, lw_in5 (j := 217) rfl, lw_in5 (j := 218) rfl⟩
theorem lw_cn8 : "GustHomeModel" ≠ "java/lang/invoke/MethodHandle" ∧ "GustHomeModel" ≠ "java/lang/invoke/VarHandle" := ⟨by decide +kernel, by decide +kernel⟩
theorem lw_ci8 : Cond.instantiable "GustHomeModel" 119 ∈ tables_1 := lw_in5 (j := 237) rfl
theorem lw_p60 : lw_okq (⟨"GustHomeModel", "push", "(I)V"⟩, 119) := ⟨lw_cn8, lw_ci8, lw_in7 (j := 126) rfl, lw_in7 (j := 127) rfl⟩
theorem lw_p61 : lw_okq (⟨"GustHomeModel", "takesText", "(IZ)I"⟩, 119) := ⟨lw_cn8, lw_ci8, lw_in7 (j := 138) rfl, lw_in7 (j := 139) rfl⟩
theorem lw_p62 : lw_okq (⟨"GustHomeModel", "begins", "(I)V"⟩, 119) := ⟨lw_cn8, lw_ci8, lw_in7 (j := 142) rfl, lw_in7 (j := 143) rfl⟩
theorem lw_p63 : lw_okq (⟨"GustHomeModel", "isGood", "()Z"⟩, 119) := ⟨lw_cn8, lw_ci8, lw_in7 (j := 146) rfl, lw_in7 (j := 147) rfl⟩
noncomputable def lw_privs_4 : List (MethodName × Nat) := [(⟨"GustHome$School", "lowestReady", "(II)I"⟩, 2), (⟨"GustHome$Houses", "highest", "(I)I"⟩, 5), (⟨"GustHome$Houses", "higher", "(II)Z"⟩, 5), (⟨"GustHome$Houses", "dearest", "(LGustHome$State;II)I"⟩, 5), (⟨"GustHome$Houses", "dearer", "(LGustHome$State;III)Z"⟩, 5), (⟨"GustHome", "sought", "(IIII)I"⟩, 15), (⟨"GustHome", "sightingsStand", "(I)Z"⟩, 15), (⟨"GustHome", "sightingsAgree", "(II)Z"⟩, 15), (⟨"GustHome$Planner", "staffFrom", "(III)V"⟩, 14), (⟨"GustHome$Planner", "waysOn", "(III)I"⟩, 14), (⟨"GustHome$Planner", "walkFirst", "()V"⟩, 14), (⟨"GustHome$Planner", "firstOn", "(II)I"⟩, 14), (⟨"GustHomeModel", "push", "(I)V"⟩, 119), (⟨"GustHomeModel", "takesText", "(IZ)I"⟩, 119), (⟨"GustHomeModel", "begins", "(I)V"⟩, 119), (⟨"GustHomeModel", "isGood", "()Z"⟩, 119)]
theorem lw_r4 : ∀ q ∈ lw_privs_4, lw_okq q := List.forall_mem_cons.mpr ⟨lw_p48, List.forall_mem_cons.mpr ⟨lw_p49, List.forall_mem_cons.mpr ⟨lw_p50, List.forall_mem_cons.mpr ⟨lw_p51, List.forall_mem_cons.mpr ⟨lw_p52, List.forall_mem_cons.mpr ⟨lw_p53, List.forall_mem_cons.mpr ⟨lw_p54, List.forall_mem_cons.mpr ⟨lw_p55, List.forall_mem_cons.mpr ⟨lw_p56, List.forall_mem_cons.mpr ⟨lw_p57, List.forall_mem_cons.mpr ⟨lw_p58, List.forall_mem_cons.mpr ⟨lw_p59, List.forall_mem_cons.mpr ⟨lw_p60, List.forall_mem_cons.mpr ⟨lw_p61, List.forall_mem_cons.mpr ⟨lw_p62, List.forall_mem_cons.mpr ⟨lw_p63, fun _ h => absurd h List.not_mem_nil⟩⟩⟩⟩⟩⟩⟩⟩⟩⟩⟩⟩⟩⟩⟩⟩
theorem lw_p64 : lw_okq (⟨"GustHomeModel", "clause", "(Z)V"⟩, 119) := ⟨lw_cn8, lw_ci8, lw_in7 (j := 150) rfl, lw_in7 (j := 151) rfl⟩
theorem lw_p65 : lw_okq (⟨"GustHomeModel", "here", "()I"⟩, 119) := ⟨lw_cn8, lw_ci8, lw_in7 (j := 154) rfl, lw_in7 (j := 155) rfl⟩
theorem lw_p66 : lw_okq (⟨"GustHomeModel", "wrongs", "(II)V"⟩, 119) := ⟨lw_cn8, lw_ci8, lw_in7 (j := 161) rfl, lw_in7 (j := 162) rfl⟩
theorem lw_p67 : lw_okq (⟨"GustHomeModel", "value", "()V"⟩, 119) := ⟨lw_cn8, lw_ci8, lw_in7 (j := 165) rfl, lw_in7 (j := 166) rfl⟩
theorem lw_p68 : lw_okq (⟨"GustHomeModel", "factor", "()V"⟩, 119) := ⟨lw_cn8, lw_ci8, lw_in7 (j := 169) rfl, lw_in7 (j := 170) rfl⟩
theorem lw_p69 : lw_okq (⟨"GustHomeModel", "opens", "()V"⟩, 119) := ⟨lw_cn8, lw_ci8, lw_in7 (j := 173) rfl, lw_in7 (j := 174) rfl⟩
theorem lw_p70 : lw_okq (⟨"GustHomeModel", "puts", "(I)V"⟩, 119) := ⟨lw_cn8, lw_ci8, lw_in7 (j := 177) rfl, lw_in7 (j := 178) rfl⟩
theorem lw_p71 : lw_okq (⟨"GustHomeModel", "seesDigit", "()Z"⟩, 119) := ⟨lw_cn8, lw_ci8, lw_in7 (j := 181) rfl, lw_in7 (j := 182) rfl⟩
theorem lw_p72 : lw_okq (⟨"GustHomeModel", "reads", "()I"⟩, 119) := ⟨lw_cn8, lw_ci8, lw_in7 (j := 187) rfl, lw_in7 (j := 188) rfl⟩
theorem lw_p73 : lw_okq (⟨"GustHomeModel", "emit", "(II)V"⟩, 119) := ⟨lw_cn8, lw_ci8, lw_in7 (j := 191) rfl, lw_in7 (j := 192) rfl⟩
theorem lw_p74 : lw_okq (⟨"GustHomeModel", "stays", "()Z"⟩, 119) := ⟨lw_cn8, lw_ci8, lw_in7 (j := 198) rfl, lw_in7 (j := 199) rfl⟩
theorem lw_p75 : lw_okq (⟨"GustHomeModel", "sums", "(Z)V"⟩, 119) := ⟨lw_cn8, lw_ci8, lw_in7 (j := 208) rfl, lw_in7 (j := 209) rfl⟩
theorem lw_p76 : lw_okq (⟨"GustHomeModel", "top", "()I"⟩, 119) := ⟨lw_cn8, lw_ci8, lw_in7 (j := 212) rfl, lw_in7 (j := 213) rfl⟩
theorem lw_p77 : lw_okq (⟨"GustHomeModel", "condition", "()V"⟩, 119) := ⟨lw_cn8, lw_ci8, lw_in7 (j := 216) rfl, lw_in7 (j := 217) rfl⟩
theorem lw_p78 : lw_okq (⟨"GustHomeModel", "pieceOfC", "()V"⟩, 119) := ⟨lw_cn8, lw_ci8, lw_in7 (j := 220) rfl, lw_in7 (j := 221) rfl⟩
theorem lw_p79 : lw_okq (⟨"GustHomeModel", "ends", "()V"⟩, 119) := ⟨lw_cn8, lw_ci8, lw_in7 (j := 227) rfl, lw_in7 (j := 228) rfl⟩
noncomputable def lw_privs_5 : List (MethodName × Nat) := [(⟨"GustHomeModel", "clause", "(Z)V"⟩, 119), (⟨"GustHomeModel", "here", "()I"⟩, 119), (⟨"GustHomeModel", "wrongs", "(II)V"⟩, 119), (⟨"GustHomeModel", "value", "()V"⟩, 119), (⟨"GustHomeModel", "factor", "()V"⟩, 119), (⟨"GustHomeModel", "opens", "()V"⟩, 119), (⟨"GustHomeModel", "puts", "(I)V"⟩, 119), (⟨"GustHomeModel", "seesDigit", "()Z"⟩, 119), (⟨"GustHomeModel", "reads", "()I"⟩, 119), (⟨"GustHomeModel", "emit", "(II)V"⟩, 119), (⟨"GustHomeModel", "stays", "()Z"⟩, 119), (⟨"GustHomeModel", "sums", "(Z)V"⟩, 119), (⟨"GustHomeModel", "top", "()I"⟩, 119), (⟨"GustHomeModel", "condition", "()V"⟩, 119), (⟨"GustHomeModel", "pieceOfC", "()V"⟩, 119), (⟨"GustHomeModel", "ends", "()V"⟩, 119)]
theorem lw_r5 : ∀ q ∈ lw_privs_5, lw_okq q := List.forall_mem_cons.mpr ⟨lw_p64, List.forall_mem_cons.mpr ⟨lw_p65, List.forall_mem_cons.mpr ⟨lw_p66, List.forall_mem_cons.mpr ⟨lw_p67, List.forall_mem_cons.mpr ⟨lw_p68, List.forall_mem_cons.mpr ⟨lw_p69, List.forall_mem_cons.mpr ⟨lw_p70, List.forall_mem_cons.mpr ⟨lw_p71, List.forall_mem_cons.mpr ⟨lw_p72, List.forall_mem_cons.mpr ⟨lw_p73, List.forall_mem_cons.mpr ⟨lw_p74, List.forall_mem_cons.mpr ⟨lw_p75, List.forall_mem_cons.mpr ⟨lw_p76, List.forall_mem_cons.mpr ⟨lw_p77, List.forall_mem_cons.mpr ⟨lw_p78, List.forall_mem_cons.mpr ⟨lw_p79, fun _ h => absurd h List.not_mem_nil⟩⟩⟩⟩⟩⟩⟩⟩⟩⟩⟩⟩⟩⟩⟩⟩
theorem lw_p80 : lw_okq (⟨"GustHomeModel", "goesBehind", "()Z"⟩, 119) := ⟨lw_cn8, lw_ci8, lw_in7 (j := 231) rfl, lw_in7 (j := 232) rfl⟩
theorem lw_p81 : lw_okq (⟨"GustHomeModel", "joins", "(Z)V"⟩, 119) := ⟨lw_cn8, lw_ci8, lw_in7 (j := 235) rfl, lw_in7 (j := 236) rfl⟩
theorem lw_p82 : lw_okq (⟨"GustHomeModel", "isTold", "(I)Z"⟩, 119) := ⟨lw_cn8, lw_ci8, lw_in8 (j := 18) rfl, lw_in8 (j := 19) rfl⟩
theorem lw_p83 : lw_okq (⟨"GustHomeModel", "manyIn", "(I)I"⟩, 119) := ⟨lw_cn8, lw_ci8, lw_in8 (j := 27) rfl, lw_in8 (j := 28) rfl⟩
theorem lw_p84 : lw_okq (⟨"GustHomeModel", "isIn", "(II)Z"⟩, 119) := ⟨lw_cn8, lw_ci8, lw_in8 (j := 31) rfl, lw_in8 (j := 32) rfl⟩
theorem lw_p85 : lw_okq (⟨"GustHomeModel", "monthTold", "()V"⟩, 119) := ⟨lw_cn8, lw_ci8, lw_in8 (j := 65) rfl, lw_in8 (j := 66) rfl⟩
theorem lw_p86 : lw_okq (⟨"GustHomeModel", "repeats", "(III)V"⟩, 119) := ⟨lw_cn8, lw_ci8, lw_in8 (j := 69) rfl, lw_in8 (j := 70) rfl⟩
theorem lw_p87 : lw_okq (⟨"GustHomeModel", "timesTold", "()I"⟩, 119) := ⟨lw_cn8, lw_ci8, lw_in8 (j := 73) rfl, lw_in8 (j := 74) rfl⟩
theorem lw_p88 : lw_okq (⟨"GustHomeModel", "go", "(I)V"⟩, 119) := ⟨lw_cn8, lw_ci8, lw_in8 (j := 84) rfl, lw_in8 (j := 85) rfl⟩
theorem lw_p89 : lw_okq (⟨"GustHomeModel", "weakens", "()V"⟩, 119) := ⟨lw_cn8, lw_ci8, lw_in8 (j := 88) rfl, lw_in8 (j := 89) rfl⟩
theorem lw_p90 : lw_okq (⟨"GustHomeModel", "gustStands", "(I)V"⟩, 119) := ⟨lw_cn8, lw_ci8, lw_in8 (j := 92) rfl, lw_in8 (j := 93) rfl⟩
theorem lw_p91 : lw_okq (⟨"GustHomeModel", "nothingStands", "()V"⟩, 119) := ⟨lw_cn8, lw_ci8, lw_in8 (j := 96) rfl, lw_in8 (j := 97) rfl⟩
theorem lw_p92 : lw_okq (⟨"GustHomeModel", "tells", "(II)I"⟩, 119) := ⟨lw_cn8, lw_ci8, lw_in8 (j := 103) rfl, lw_in8 (j := 104) rfl⟩
theorem lw_p93 : lw_okq (⟨"GustHomeModel", "isSo", "(I)Z"⟩, 119) := ⟨lw_cn8, lw_ci8, lw_in8 (j := 107) rfl, lw_in8 (j := 108) rfl⟩
theorem lw_p94 : lw_okq (⟨"GustHomeModel", "works", "(II)V"⟩, 119) := ⟨lw_cn8, lw_ci8, lw_in8 (j := 111) rfl, lw_in8 (j := 112) rfl⟩
theorem lw_p95 : lw_okq (⟨"GustHomeModel", "does", "(II)V"⟩, 119) := ⟨lw_cn8, lw_ci8, lw_in8 (j := 115) rfl, lw_in8 (j := 116) rfl⟩
noncomputable def lw_privs_6 : List (MethodName × Nat) := [(⟨"GustHomeModel", "goesBehind", "()Z"⟩, 119), (⟨"GustHomeModel", "joins", "(Z)V"⟩, 119), (⟨"GustHomeModel", "isTold", "(I)Z"⟩, 119), (⟨"GustHomeModel", "manyIn", "(I)I"⟩, 119), (⟨"GustHomeModel", "isIn", "(II)Z"⟩, 119), (⟨"GustHomeModel", "monthTold", "()V"⟩, 119), (⟨"GustHomeModel", "repeats", "(III)V"⟩, 119), (⟨"GustHomeModel", "timesTold", "()I"⟩, 119), (⟨"GustHomeModel", "go", "(I)V"⟩, 119), (⟨"GustHomeModel", "weakens", "()V"⟩, 119), (⟨"GustHomeModel", "gustStands", "(I)V"⟩, 119), (⟨"GustHomeModel", "nothingStands", "()V"⟩, 119), (⟨"GustHomeModel", "tells", "(II)I"⟩, 119), (⟨"GustHomeModel", "isSo", "(I)Z"⟩, 119), (⟨"GustHomeModel", "works", "(II)V"⟩, 119), (⟨"GustHomeModel", "does", "(II)V"⟩, 119)]
theorem lw_r6 : ∀ q ∈ lw_privs_6, lw_okq q := List.forall_mem_cons.mpr ⟨lw_p80, List.forall_mem_cons.mpr ⟨lw_p81, List.forall_mem_cons.mpr ⟨lw_p82, List.forall_mem_cons.mpr ⟨lw_p83, List.forall_mem_cons.mpr ⟨lw_p84, List.forall_mem_cons.mpr ⟨lw_p85, List.forall_mem_cons.mpr ⟨lw_p86, List.forall_mem_cons.mpr ⟨lw_p87, List.forall_mem_cons.mpr ⟨lw_p88, List.forall_mem_cons.mpr ⟨lw_p89, List.forall_mem_cons.mpr ⟨lw_p90, List.forall_mem_cons.mpr ⟨lw_p91, List.forall_mem_cons.mpr ⟨lw_p92, List.forall_mem_cons.mpr ⟨lw_p93, List.forall_mem_cons.mpr ⟨lw_p94, List.forall_mem_cons.mpr ⟨lw_p95, fun _ h => absurd h List.not_mem_nil⟩⟩⟩⟩⟩⟩⟩⟩⟩⟩⟩⟩⟩⟩⟩⟩
theorem lw_p96 : lw_okq (⟨"GustHomeModel", "valueOf", "(I)I"⟩, 119) := ⟨lw_cn8, lw_ci8, lw_in8 (j := 122) rfl, lw_in8 (j := 123) rfl⟩
theorem lw_p97 : lw_okq (⟨"GustHomeModel", "wardsGo", "()V"⟩, 119) := ⟨lw_cn8, lw_ci8, lw_in8 (j := 129) rfl, lw_in8 (j := 130) rfl⟩
theorem lw_p98 : lw_okq (⟨"GustHomeModel", "isWell", "(I)Z"⟩, 119) := ⟨lw_cn8, lw_ci8, lw_in8 (j := 133) rfl, lw_in8 (j := 134) rfl⟩
theorem lw_p99 : lw_okq (⟨"GustHomeModel", "isThere", "(I)Z"⟩, 119) := ⟨lw_cn8, lw_ci8, lw_in8 (j := 137) rfl, lw_in8 (j := 138) rfl⟩
theorem lw_p100 : lw_okq (⟨"GustHomeModel", "feeds", "(I)V"⟩, 119) := ⟨lw_cn8, lw_ci8, lw_in8 (j := 141) rfl, lw_in8 (j := 142) rfl⟩
theorem lw_p101 : lw_okq (⟨"GustHomeModel", "teaches", "(I)V"⟩, 119) := ⟨lw_cn8, lw_ci8, lw_in8 (j := 145) rfl, lw_in8 (j := 146) rfl⟩
theorem lw_p102 : lw_okq (⟨"GustHomeModel", "lessonOf", "(I)I"⟩, 119) := ⟨lw_cn8, lw_ci8, lw_in8 (j := 149) rfl, lw_in8 (j := 150) rfl⟩
theorem lw_p103 : lw_okq (⟨"GustHomeModel", "says", "(I)Z"⟩, 119) := ⟨lw_cn8, lw_ci8, lw_in8 (j := 153) rfl, lw_in8 (j := 154) rfl⟩
theorem lw_p104 : lw_okq (⟨"GustHomeModel", "breaks", "()V"⟩, 119) := ⟨lw_cn8, lw_ci8, lw_in8 (j := 157) rfl, lw_in8 (j := 158) rfl⟩
theorem lw_p105 : lw_okq (⟨"GustHomeModel", "whistle", "()V"⟩, 119) := ⟨lw_cn8, lw_ci8, lw_in8 (j := 161) rfl, lw_in8 (j := 162) rfl⟩
theorem lw_p106 : lw_okq (⟨"GustHomeModel", "doQuarrel", "(II)Z"⟩, 119) := ⟨lw_cn8, lw_ci8, lw_in8 (j := 165) rfl, lw_in8 (j := 166) rfl⟩
theorem lw_p107 : lw_okq (⟨"GustHomeModel", "isAngry", "(II)Z"⟩, 119) := ⟨lw_cn8, lw_ci8, lw_in8 (j := 169) rfl, lw_in8 (j := 170) rfl⟩
theorem lw_p108 : lw_okq (⟨"GustHomeModel", "nursesGo", "()V"⟩, 119) := ⟨lw_cn8, lw_ci8, lw_in8 (j := 173) rfl, lw_in8 (j := 174) rfl⟩
theorem lw_p109 : lw_okq (⟨"GustHomeModel", "falling", "(II)I"⟩, 119) := ⟨lw_cn8, lw_ci8, lw_in8 (j := 177) rfl, lw_in8 (j := 178) rfl⟩
theorem lw_p110 : lw_okq (⟨"GustHomeModel", "draw", "()I"⟩, 119) := ⟨lw_cn8, lw_ci8, lw_in8 (j := 181) rfl, lw_in8 (j := 182) rfl⟩
theorem lw_p111 : lw_okq (⟨"GustHomeModel", "judges", "()V"⟩, 119) := ⟨lw_cn8, lw_ci8, lw_in8 (j := 186) rfl, lw_in8 (j := 187) rfl⟩
noncomputable def lw_privs_7 : List (MethodName × Nat) := [(⟨"GustHomeModel", "valueOf", "(I)I"⟩, 119), (⟨"GustHomeModel", "wardsGo", "()V"⟩, 119), (⟨"GustHomeModel", "isWell", "(I)Z"⟩, 119), (⟨"GustHomeModel", "isThere", "(I)Z"⟩, 119), (⟨"GustHomeModel", "feeds", "(I)V"⟩, 119), (⟨"GustHomeModel", "teaches", "(I)V"⟩, 119), (⟨"GustHomeModel", "lessonOf", "(I)I"⟩, 119), (⟨"GustHomeModel", "says", "(I)Z"⟩, 119), (⟨"GustHomeModel", "breaks", "()V"⟩, 119), (⟨"GustHomeModel", "whistle", "()V"⟩, 119), (⟨"GustHomeModel", "doQuarrel", "(II)Z"⟩, 119), (⟨"GustHomeModel", "isAngry", "(II)Z"⟩, 119), (⟨"GustHomeModel", "nursesGo", "()V"⟩, 119), (⟨"GustHomeModel", "falling", "(II)I"⟩, 119), (⟨"GustHomeModel", "draw", "()I"⟩, 119), (⟨"GustHomeModel", "judges", "()V"⟩, 119)]
theorem lw_r7 : ∀ q ∈ lw_privs_7, lw_okq q := List.forall_mem_cons.mpr ⟨lw_p96, List.forall_mem_cons.mpr ⟨lw_p97, List.forall_mem_cons.mpr ⟨lw_p98, List.forall_mem_cons.mpr ⟨lw_p99, List.forall_mem_cons.mpr ⟨lw_p100, List.forall_mem_cons.mpr ⟨lw_p101, List.forall_mem_cons.mpr ⟨lw_p102, List.forall_mem_cons.mpr ⟨lw_p103, List.forall_mem_cons.mpr ⟨lw_p104, List.forall_mem_cons.mpr ⟨lw_p105, List.forall_mem_cons.mpr ⟨lw_p106, List.forall_mem_cons.mpr ⟨lw_p107, List.forall_mem_cons.mpr ⟨lw_p108, List.forall_mem_cons.mpr ⟨lw_p109, List.forall_mem_cons.mpr ⟨lw_p110, List.forall_mem_cons.mpr ⟨lw_p111, fun _ h => absurd h List.not_mem_nil⟩⟩⟩⟩⟩⟩⟩⟩⟩⟩⟩⟩⟩⟩⟩⟩
theorem lw_p112 : lw_okq (⟨"GustHomeModel", "isKeptBy", "(II)Z"⟩, 119) := ⟨lw_cn8, lw_ci8, lw_in8 (j := 190) rfl, lw_in8 (j := 191) rfl⟩
theorem lw_p113 : lw_okq (⟨"GustHomeModel", "togetherIn", "(I)I"⟩, 119) := ⟨lw_cn8, lw_ci8, lw_in8 (j := 194) rfl, lw_in8 (j := 195) rfl⟩
theorem lw_p114 : lw_okq (⟨"GustHomeModel", "laysAside", "(I)V"⟩, 119) := ⟨lw_cn8, lw_ci8, lw_in8 (j := 203) rfl, lw_in8 (j := 204) rfl⟩
theorem lw_p115 : lw_okq (⟨"GustHomeModel", "bringsBack", "(I)V"⟩, 119) := ⟨lw_cn8, lw_ci8, lw_in8 (j := 207) rfl, lw_in8 (j := 208) rfl⟩
theorem lw_p116 : lw_okq (⟨"GustHomeModel", "setIn", "(I)I"⟩, 119) := ⟨lw_cn8, lw_ci8, lw_in8 (j := 222) rfl, lw_in8 (j := 223) rfl⟩
theorem lw_p117 : lw_okq (⟨"GustHomeModel", "brokenIn", "(I)I"⟩, 119) := ⟨lw_cn8, lw_ci8, lw_in8 (j := 226) rfl, lw_in8 (j := 227) rfl⟩
theorem lw_p118 : lw_okq (⟨"GustHomeModel", "areGusts", "(III)Z"⟩, 119) := ⟨lw_cn8, lw_ci8, lw_in9 (j := 2) rfl, lw_in9 (j := 3) rfl⟩
theorem lw_p119 : lw_okq (⟨"GustHomeModel", "toldGusts", "()I"⟩, 119) := ⟨lw_cn8, lw_ci8, lw_in9 (j := 6) rfl, lw_in9 (j := 7) rfl⟩
theorem lw_p120 : lw_okq (⟨"GustHomeModel", "takesSome", "(I)I"⟩, 119) := ⟨lw_cn8, lw_ci8, lw_in9 (j := 11) rfl, lw_in9 (j := 12) rfl⟩
theorem lw_p121 : lw_okq (⟨"GustHomeModel", "takesPlaces", "(I)I"⟩, 119) := ⟨lw_cn8, lw_ci8, lw_in9 (j := 15) rfl, lw_in9 (j := 16) rfl⟩
theorem lw_p122 : lw_okq (⟨"GustHomeModel", "opensRow", "(III)V"⟩, 119) := ⟨lw_cn8, lw_ci8, lw_in9 (j := 23) rfl, lw_in9 (j := 24) rfl⟩
theorem lw_p123 : lw_okq (⟨"GustHomeModel", "isRoomFor", "(II)Z"⟩, 119) := ⟨lw_cn8, lw_ci8, lw_in9 (j := 27) rfl, lw_in9 (j := 28) rfl⟩
theorem lw_p124 : lw_okq (⟨"GustHomeModel", "twosIn", "(I)I"⟩, 119) := ⟨lw_cn8, lw_ci8, lw_in9 (j := 31) rfl, lw_in9 (j := 32) rfl⟩
theorem lw_p125 : lw_okq (⟨"GustHomeModel", "keepsRow", "(I)V"⟩, 119) := ⟨lw_cn8, lw_ci8, lw_in9 (j := 35) rfl, lw_in9 (j := 36) rfl⟩
theorem lw_p126 : lw_okq (⟨"GustHomeModel", "laysLeaving", "(I)V"⟩, 119) := ⟨lw_cn8, lw_ci8, lw_in9 (j := 52) rfl, lw_in9 (j := 53) rfl⟩
theorem lw_p127 : lw_okq (⟨"GustHomeModel", "canLeave", "(I)Z"⟩, 119) := ⟨lw_cn8, lw_ci8, lw_in9 (j := 56) rfl, lw_in9 (j := 57) rfl⟩
noncomputable def lw_privs_8 : List (MethodName × Nat) := [(⟨"GustHomeModel", "isKeptBy", "(II)Z"⟩, 119), (⟨"GustHomeModel", "togetherIn", "(I)I"⟩, 119), (⟨"GustHomeModel", "laysAside", "(I)V"⟩, 119), (⟨"GustHomeModel", "bringsBack", "(I)V"⟩, 119), (⟨"GustHomeModel", "setIn", "(I)I"⟩, 119), (⟨"GustHomeModel", "brokenIn", "(I)I"⟩, 119), (⟨"GustHomeModel", "areGusts", "(III)Z"⟩, 119), (⟨"GustHomeModel", "toldGusts", "()I"⟩, 119), (⟨"GustHomeModel", "takesSome", "(I)I"⟩, 119), (⟨"GustHomeModel", "takesPlaces", "(I)I"⟩, 119), (⟨"GustHomeModel", "opensRow", "(III)V"⟩, 119), (⟨"GustHomeModel", "isRoomFor", "(II)Z"⟩, 119), (⟨"GustHomeModel", "twosIn", "(I)I"⟩, 119), (⟨"GustHomeModel", "keepsRow", "(I)V"⟩, 119), (⟨"GustHomeModel", "laysLeaving", "(I)V"⟩, 119), (⟨"GustHomeModel", "canLeave", "(I)Z"⟩, 119)]
theorem lw_r8 : ∀ q ∈ lw_privs_8, lw_okq q := List.forall_mem_cons.mpr ⟨lw_p112, List.forall_mem_cons.mpr ⟨lw_p113, List.forall_mem_cons.mpr ⟨lw_p114, List.forall_mem_cons.mpr ⟨lw_p115, List.forall_mem_cons.mpr ⟨lw_p116, List.forall_mem_cons.mpr ⟨lw_p117, List.forall_mem_cons.mpr ⟨lw_p118, List.forall_mem_cons.mpr ⟨lw_p119, List.forall_mem_cons.mpr ⟨lw_p120, List.forall_mem_cons.mpr ⟨lw_p121, List.forall_mem_cons.mpr ⟨lw_p122, List.forall_mem_cons.mpr ⟨lw_p123, List.forall_mem_cons.mpr ⟨lw_p124, List.forall_mem_cons.mpr ⟨lw_p125, List.forall_mem_cons.mpr ⟨lw_p126, List.forall_mem_cons.mpr ⟨lw_p127, fun _ h => absurd h List.not_mem_nil⟩⟩⟩⟩⟩⟩⟩⟩⟩⟩⟩⟩⟩⟩⟩⟩
theorem lw_p128 : lw_okq (⟨"GustHomeModel", "canGo", "(II)Z"⟩, 119) := ⟨lw_cn8, lw_ci8, lw_in9 (j := 60) rfl, lw_in9 (j := 61) rfl⟩
theorem lw_p129 : lw_okq (⟨"GustHomeModel", "homesFor", "(II)I"⟩, 119) := ⟨lw_cn8, lw_ci8, lw_in9 (j := 76) rfl, lw_in9 (j := 77) rfl⟩
theorem lw_p130 : lw_okq (⟨"GustHomeModel", "greaterPart", "(II)I"⟩, 119) := ⟨lw_cn8, lw_ci8, lw_in9 (j := 80) rfl, lw_in9 (j := 81) rfl⟩
theorem lw_p131 : lw_okq (⟨"GustHomeModel", "laysLessons", "(II)Z"⟩, 119) := ⟨lw_cn8, lw_ci8, lw_in9 (j := 88) rfl, lw_in9 (j := 89) rfl⟩
theorem lw_p132 : lw_okq (⟨"GustHomeModel", "laysPlaces", "(I)V"⟩, 119) := ⟨lw_cn8, lw_ci8, lw_in9 (j := 100) rfl, lw_in9 (j := 101) rfl⟩
theorem lw_p133 : lw_okq (⟨"GustHomeModel", "isAnywhere", "(I)Z"⟩, 119) := ⟨lw_cn8, lw_ci8, lw_in9 (j := 104) rfl, lw_in9 (j := 105) rfl⟩
theorem lw_p134 : lw_okq (⟨"GustHomeModel", "asksNext", "(I)I"⟩, 119) := ⟨lw_cn8, lw_ci8, lw_in9 (j := 108) rfl, lw_in9 (j := 109) rfl⟩
theorem lw_p135 : lw_okq (⟨"GustHomeModel", "isHigher", "(II)Z"⟩, 119) := ⟨lw_cn8, lw_ci8, lw_in9 (j := 112) rfl, lw_in9 (j := 113) rfl⟩
theorem lw_p136 : lw_okq (⟨"GustHomeModel", "isLiked", "(III)Z"⟩, 119) := ⟨lw_cn8, lw_ci8, lw_in9 (j := 116) rfl, lw_in9 (j := 117) rfl⟩
theorem lw_p137 : lw_okq (⟨"GustHomeModel", "byteAt", "(I)I"⟩, 119) := ⟨lw_cn8, lw_ci8, lw_in9 (j := 124) rfl, lw_in9 (j := 125) rfl⟩
theorem lw_p138 : lw_okq (⟨"GustHomeModel", "hourOf", "(I)I"⟩, 119) := ⟨lw_cn8, lw_ci8, lw_in9 (j := 133) rfl, lw_in9 (j := 134) rfl⟩
theorem lw_p139 : lw_okq (⟨"GustHomeModel", "laysAhead", "(II)Z"⟩, 119) := ⟨lw_cn8, lw_ci8, lw_in9 (j := 137) rfl, lw_in9 (j := 138) rfl⟩
theorem lw_p140 : lw_okq (⟨"GustHomeModel", "laysBehind", "(II)V"⟩, 119) := ⟨lw_cn8, lw_ci8, lw_in9 (j := 148) rfl, lw_in9 (j := 149) rfl⟩
theorem lw_p141 : lw_okq (⟨"GustHomeModel", "toldNurses", "()I"⟩, 119) := ⟨lw_cn8, lw_ci8, lw_in9 (j := 156) rfl, lw_in9 (j := 157) rfl⟩
theorem lw_p142 : lw_okq (⟨"GustHomeModel", "isOrder", "(I)Z"⟩, 119) := ⟨lw_cn8, lw_ci8, lw_in9 (j := 160) rfl, lw_in9 (j := 161) rfl⟩
theorem lw_p143 : lw_okq (⟨"GustHomeModel", "laysRing", "(I)V"⟩, 119) := ⟨lw_cn8, lw_ci8, lw_in9 (j := 168) rfl, lw_in9 (j := 169) rfl⟩
noncomputable def lw_privs_9 : List (MethodName × Nat) := [(⟨"GustHomeModel", "canGo", "(II)Z"⟩, 119), (⟨"GustHomeModel", "homesFor", "(II)I"⟩, 119), (⟨"GustHomeModel", "greaterPart", "(II)I"⟩, 119), (⟨"GustHomeModel", "laysLessons", "(II)Z"⟩, 119), (⟨"GustHomeModel", "laysPlaces", "(I)V"⟩, 119), (⟨"GustHomeModel", "isAnywhere", "(I)Z"⟩, 119), (⟨"GustHomeModel", "asksNext", "(I)I"⟩, 119), (⟨"GustHomeModel", "isHigher", "(II)Z"⟩, 119), (⟨"GustHomeModel", "isLiked", "(III)Z"⟩, 119), (⟨"GustHomeModel", "byteAt", "(I)I"⟩, 119), (⟨"GustHomeModel", "hourOf", "(I)I"⟩, 119), (⟨"GustHomeModel", "laysAhead", "(II)Z"⟩, 119), (⟨"GustHomeModel", "laysBehind", "(II)V"⟩, 119), (⟨"GustHomeModel", "toldNurses", "()I"⟩, 119), (⟨"GustHomeModel", "isOrder", "(I)Z"⟩, 119), (⟨"GustHomeModel", "laysRing", "(I)V"⟩, 119)]
theorem lw_r9 : ∀ q ∈ lw_privs_9, lw_okq q := List.forall_mem_cons.mpr ⟨lw_p128, List.forall_mem_cons.mpr ⟨lw_p129, List.forall_mem_cons.mpr ⟨lw_p130, List.forall_mem_cons.mpr ⟨lw_p131, List.forall_mem_cons.mpr ⟨lw_p132, List.forall_mem_cons.mpr ⟨lw_p133, List.forall_mem_cons.mpr ⟨lw_p134, List.forall_mem_cons.mpr ⟨lw_p135, List.forall_mem_cons.mpr ⟨lw_p136, List.forall_mem_cons.mpr ⟨lw_p137, List.forall_mem_cons.mpr ⟨lw_p138, List.forall_mem_cons.mpr ⟨lw_p139, List.forall_mem_cons.mpr ⟨lw_p140, List.forall_mem_cons.mpr ⟨lw_p141, List.forall_mem_cons.mpr ⟨lw_p142, List.forall_mem_cons.mpr ⟨lw_p143, fun _ h => absurd h List.not_mem_nil⟩⟩⟩⟩⟩⟩⟩⟩⟩⟩⟩⟩⟩⟩⟩⟩
theorem lw_p144 : lw_okq (⟨"GustHomeModel", "toldOf", "(I)I"⟩, 119) := ⟨lw_cn8, lw_ci8, lw_in9 (j := 201) rfl, lw_in9 (j := 202) rfl⟩
noncomputable def lw_privs_10 : List (MethodName × Nat) := [(⟨"GustHomeModel", "toldOf", "(I)I"⟩, 119)]
theorem lw_r10 : ∀ q ∈ lw_privs_10, lw_okq q := List.forall_mem_cons.mpr ⟨lw_p144, fun _ h => absurd h List.not_mem_nil⟩
noncomputable def lw_privs : List (MethodName × Nat) := lw_privs_1 ++ (lw_privs_2 ++ (lw_privs_3 ++ (lw_privs_4 ++ (lw_privs_5 ++ (lw_privs_6 ++ (lw_privs_7 ++ (lw_privs_8 ++ (lw_privs_9 ++ (lw_privs_10)))))))))
noncomputable def lw_tbl : List Cond := k2_sels lw_privs ++ tables_1
theorem lw_privs_ok : ∀ q ∈ lw_privs, lw_okq q := by
  show ∀ q ∈ lw_privs_1 ++ (lw_privs_2 ++ (lw_privs_3 ++ (lw_privs_4 ++ (lw_privs_5 ++ (lw_privs_6 ++ (lw_privs_7 ++ (lw_privs_8 ++ (lw_privs_9 ++ (lw_privs_10))))))))), lw_okq q
  exact List.forall_mem_append.mpr ⟨lw_r1, List.forall_mem_append.mpr ⟨lw_r2, List.forall_mem_append.mpr ⟨lw_r3, List.forall_mem_append.mpr ⟨lw_r4, List.forall_mem_append.mpr ⟨lw_r5, List.forall_mem_append.mpr ⟨lw_r6, List.forall_mem_append.mpr ⟨lw_r7, List.forall_mem_append.mpr ⟨lw_r8, List.forall_mem_append.mpr ⟨lw_r9, lw_r10⟩⟩⟩⟩⟩⟩⟩⟩⟩
end Prt01
section Prt02
/-! ===== BEGIN words of one list among another's, by their places ===== -/
/-! ===== END ===== -/

/-! ===== BEGIN printed: names, fields, word lists, decode rows ===== -/
noncomputable def RX0 : String := "GustHome$Calendar"
noncomputable def TX0 : u_T := fun k => match k with
  | 0 => ("GustHome$Calendar", "wards", "[LGustHome$Ward;", true)
  | 1 => ("GustHome$Calendar", "judge", "LGustHome$Judge;", true)
  | 2 => ("GustHome$Calendar", "school", "LGustHome$School;", true)
  | 3 => ("GustHome$Calendar", "learnt", "I", false)
  | 4 => ("GustHome$Calendar", "fellIll", "I", false)
  | 5 => ("GustHome$Calendar", "badMonths", "I", false)
  | 6 => ("GustHome$Calendar", "badRule", "I", false)
  | _ => ("GustHome$Calendar", "badWard", "I", false)
noncomputable def tyX0 : Nat → FieldType := fun k => match k with
  | 0 => .array (.object "GustHome$Ward")
  | 1 => .object "GustHome$Judge"
  | 2 => .object "GustHome$School"
  | 3 => .int
  | 4 => .int
  | 5 => .int
  | 6 => .int
  | _ => .int
theorem nmX0 : ∀ a, a < 8 → ∀ b, b < 8 → a ≠ b → (TX0 a).2.1 ≠ (TX0 b).2.1 := by decide +kernel
theorem tyX0_ok : ∀ k, k < 8 → parseFieldDescriptor (TX0 k).2.2.1 = some (tyX0 k) := by decide +kernel
noncomputable abbrev cX0_init : ByteArray := prog_2_method_1_code
noncomputable def yX0_init : MethodName := ⟨RX0, "<init>", "([LGustHome$Ward;LGustHome$Judge;LGustHome$School;)V"⟩
noncomputable abbrev cX0_go : ByteArray := prog_2_method_2_code
noncomputable def yX0_go : MethodName := ⟨RX0, "go", "(LGustHome$State;I)V"⟩
noncomputable abbrev cX0_pass : ByteArray := prog_2_method_3_code
noncomputable def yX0_pass : MethodName := ⟨RX0, "pass", "(LGustHome$State;)V"⟩
noncomputable abbrev cX0_weaken : ByteArray := prog_2_method_4_code
noncomputable def yX0_weaken : MethodName := ⟨RX0, "weaken", "(LGustHome$State;)V"⟩
noncomputable abbrev cX0_strengthen : ByteArray := prog_2_method_5_code
noncomputable def yX0_strengthen : MethodName := ⟨RX0, "strengthen", "(LGustHome$State;II)V"⟩
noncomputable abbrev cX0_teach : ByteArray := prog_2_method_6_code
noncomputable def yX0_teach : MethodName := ⟨RX0, "teach", "(LGustHome$State;II)V"⟩
noncomputable abbrev cX0_breakToys : ByteArray := prog_2_method_7_code
noncomputable def yX0_breakToys : MethodName := ⟨RX0, "breakToys", "(LGustHome$State;)V"⟩
noncomputable abbrev cX0_quarrelAll : ByteArray := prog_2_method_8_code
noncomputable def yX0_quarrelAll : MethodName := ⟨RX0, "quarrelAll", "(LGustHome$State;)V"⟩
noncomputable abbrev cX0_recover : ByteArray := prog_2_method_9_code
noncomputable def yX0_recover : MethodName := ⟨RX0, "recover", "(LGustHome$State;)V"⟩
noncomputable abbrev cX0_sicken : ByteArray := prog_2_method_10_code
noncomputable def yX0_sicken : MethodName := ⟨RX0, "sicken", "(LGustHome$State;II)V"⟩
noncomputable abbrev cX0_askRules : ByteArray := prog_2_method_11_code
noncomputable def yX0_askRules : MethodName := ⟨RX0, "askRules", "(LGustHome$State;)V"⟩
noncomputable def RX1 : String := "GustHome$Code"
noncomputable def TX1 : u_T := fun k => match k with
  | 0 => ("GustHome$Code", "step", "[I", true)
  | 1 => ("GustHome$Code", "with", "[I", true)
  | 2 => ("GustHome$Code", "stack", "[I", true)
  | 3 => ("GustHome$Code", "letter", "[I", true)
  | 4 => ("GustHome$Code", "amountAt", "[I", true)
  | 5 => ("GustHome$Code", "conditionAt", "[I", true)
  | 6 => ("GustHome$Code", "size", "I", false)
  | _ => ("GustHome$Code", "clauses", "I", false)
noncomputable def tyX1 : Nat → FieldType := fun k => match k with
  | 0 => .array .int
  | 1 => .array .int
  | 2 => .array .int
  | 3 => .array .int
  | 4 => .array .int
  | 5 => .array .int
  | 6 => .int
  | _ => .int
theorem nmX1 : ∀ a, a < 8 → ∀ b, b < 8 → a ≠ b → (TX1 a).2.1 ≠ (TX1 b).2.1 := by decide +kernel
theorem tyX1_ok : ∀ k, k < 8 → parseFieldDescriptor (TX1 k).2.2.1 = some (tyX1 k) := by decide +kernel
noncomputable abbrev cX1_init : ByteArray := prog_3_method_1_code
noncomputable def yX1_init : MethodName := ⟨RX1, "<init>", "()V"⟩
noncomputable abbrev cX1_clear : ByteArray := prog_3_method_2_code
noncomputable def yX1_clear : MethodName := ⟨RX1, "clear", "()V"⟩
noncomputable abbrev cX1_openClause : ByteArray := prog_3_method_3_code
noncomputable def yX1_openClause : MethodName := ⟨RX1, "openClause", "(I)V"⟩
noncomputable abbrev cX1_openCondition : ByteArray := prog_3_method_4_code
noncomputable def yX1_openCondition : MethodName := ⟨RX1, "openCondition", "()V"⟩
noncomputable abbrev cX1_closeClause : ByteArray := prog_3_method_5_code
noncomputable def yX1_closeClause : MethodName := ⟨RX1, "closeClause", "()V"⟩
noncomputable abbrev cX1_put : ByteArray := prog_3_method_6_code
noncomputable def yX1_put : MethodName := ⟨RX1, "put", "(II)I"⟩
noncomputable abbrev cX1_land : ByteArray := prog_3_method_7_code
noncomputable def yX1_land : MethodName := ⟨RX1, "land", "(I)V"⟩
noncomputable abbrev cX1_run : ByteArray := prog_3_method_8_code
noncomputable def yX1_run : MethodName := ⟨RX1, "run", "(I[I)I"⟩
noncomputable abbrev cX1_valueAt : ByteArray := prog_3_method_9_code
noncomputable def yX1_valueAt : MethodName := ⟨RX1, "valueAt", "([II)I"⟩
noncomputable abbrev cX1_join : ByteArray := prog_3_method_10_code
noncomputable def yX1_join : MethodName := ⟨RX1, "join", "(III)I"⟩
noncomputable def RX2 : String := "GustHome$Houses"
noncomputable def TX2 : u_T := fun k => match k with
  | 0 => ("GustHome$Houses", "told", "I", false)
  | 1 => ("GustHome$Houses", "rise", "[I", true)
  | 2 => ("GustHome$Houses", "wanted", "[I", true)
  | 3 => ("GustHome$Houses", "houseOf", "[I", true)
  | _ => ("GustHome$Houses", "gustIn", "[I", true)
noncomputable def tyX2 : Nat → FieldType := fun k => match k with
  | 0 => .int
  | 1 => .array .int
  | 2 => .array .int
  | 3 => .array .int
  | _ => .array .int
theorem nmX2 : ∀ a, a < 5 → ∀ b, b < 5 → a ≠ b → (TX2 a).2.1 ≠ (TX2 b).2.1 := by decide +kernel
theorem tyX2_ok : ∀ k, k < 5 → parseFieldDescriptor (TX2 k).2.2.1 = some (tyX2 k) := by decide +kernel
noncomputable abbrev cX2_init : ByteArray := prog_4_method_1_code
noncomputable def yX2_init : MethodName := ⟨RX2, "<init>", "()V"⟩
noncomputable abbrev cX2_keeperOf : ByteArray := prog_4_method_2_code
noncomputable def yX2_keeperOf : MethodName := ⟨RX2, "keeperOf", "(LGustHome$State;II)I"⟩
noncomputable abbrev cX2_readRow : ByteArray := prog_4_method_3_code
noncomputable def yX2_readRow : MethodName := ⟨RX2, "readRow", "(LGustHome$Tape;I)Z"⟩
noncomputable abbrev cX2_envious : ByteArray := prog_4_method_4_code
noncomputable def yX2_envious : MethodName := ⟨RX2, "envious", "(LGustHome$State;I)I"⟩
noncomputable abbrev cX2_highest : ByteArray := prog_4_method_5_code
noncomputable def yX2_highest : MethodName := ⟨RX2, "highest", "(I)I"⟩
noncomputable abbrev cX2_dearest : ByteArray := prog_4_method_6_code
noncomputable def yX2_dearest : MethodName := ⟨RX2, "dearest", "(LGustHome$State;II)I"⟩
noncomputable abbrev cX2_higher : ByteArray := prog_4_method_7_code
noncomputable def yX2_higher : MethodName := ⟨RX2, "higher", "(II)Z"⟩
noncomputable abbrev cX2_dearer : ByteArray := prog_4_method_8_code
noncomputable def yX2_dearer : MethodName := ⟨RX2, "dearer", "(LGustHome$State;III)Z"⟩
noncomputable def RX3 : String := "GustHome$Judge"
noncomputable def TX3 : u_T := fun k => match k with
  | 0 => ("GustHome$Judge", "wards", "[LGustHome$Ward;", true)
  | 1 => ("GustHome$Judge", "values", "[I", true)
  | 2 => ("GustHome$Judge", "laid", "LGustHome$Code;", false)
  | _ => ("GustHome$Judge", "rulebook", "LGustHome$Code;", false)
noncomputable def tyX3 : Nat → FieldType := fun k => match k with
  | 0 => .array (.object "GustHome$Ward")
  | 1 => .array .int
  | 2 => .object "GustHome$Code"
  | _ => .object "GustHome$Code"
theorem nmX3 : ∀ a, a < 4 → ∀ b, b < 4 → a ≠ b → (TX3 a).2.1 ≠ (TX3 b).2.1 := by decide +kernel
theorem tyX3_ok : ∀ k, k < 4 → parseFieldDescriptor (TX3 k).2.2.1 = some (tyX3 k) := by decide +kernel
noncomputable abbrev cX3_init : ByteArray := prog_5_method_1_code
noncomputable def yX3_init : MethodName := ⟨RX3, "<init>", "([LGustHome$Ward;)V"⟩
noncomputable abbrev cX3_exchangeLaw : ByteArray := prog_5_method_2_code
noncomputable def yX3_exchangeLaw : MethodName := ⟨RX3, "exchangeLaw", "(LGustHome$Code;)LGustHome$Code;"⟩
noncomputable abbrev cX3_exchangeRules : ByteArray := prog_5_method_3_code
noncomputable def yX3_exchangeRules : MethodName := ⟨RX3, "exchangeRules", "(LGustHome$Code;)LGustHome$Code;"⟩
noncomputable abbrev cX3_clauses : ByteArray := prog_5_method_4_code
noncomputable def yX3_clauses : MethodName := ⟨RX3, "clauses", "()I"⟩
noncomputable abbrev cX3_ruleCount : ByteArray := prog_5_method_5_code
noncomputable def yX3_ruleCount : MethodName := ⟨RX3, "ruleCount", "()I"⟩
noncomputable abbrev cX3_ofGust : ByteArray := prog_5_method_6_code
noncomputable def yX3_ofGust : MethodName := ⟨RX3, "ofGust", "(LGustHome$State;II)I"⟩
noncomputable abbrev cX3_learns : ByteArray := prog_5_method_7_code
noncomputable def yX3_learns : MethodName := ⟨RX3, "learns", "(LGustHome$State;II)Z"⟩
noncomputable abbrev cX3_atOdds : ByteArray := prog_5_method_8_code
noncomputable def yX3_atOdds : MethodName := ⟨RX3, "atOdds", "(LGustHome$State;II)Z"⟩
noncomputable abbrev cX3_illness : ByteArray := prog_5_method_9_code
noncomputable def yX3_illness : MethodName := ⟨RX3, "illness", "(LGustHome$State;II)I"⟩
noncomputable abbrev cX3_firstBroken : ByteArray := prog_5_method_10_code
noncomputable def yX3_firstBroken : MethodName := ⟨RX3, "firstBroken", "(LGustHome$State;I)I"⟩
noncomputable abbrev cX3_lookAtGust : ByteArray := prog_5_method_11_code
noncomputable def yX3_lookAtGust : MethodName := ⟨RX3, "lookAtGust", "(LGustHome$State;I)V"⟩
noncomputable abbrev cX3_lookAtTwo : ByteArray := prog_5_method_12_code
noncomputable def yX3_lookAtTwo : MethodName := ⟨RX3, "lookAtTwo", "(LGustHome$State;II)V"⟩
noncomputable abbrev cX3_lookAtWard : ByteArray := prog_5_method_13_code
noncomputable def yX3_lookAtWard : MethodName := ⟨RX3, "lookAtWard", "(LGustHome$State;I)V"⟩
noncomputable abbrev cX3_firstAmount : ByteArray := prog_5_method_14_code
noncomputable def yX3_firstAmount : MethodName := ⟨RX3, "firstAmount", "(II)I"⟩
noncomputable abbrev cX3_anyHolds : ByteArray := prog_5_method_15_code
noncomputable def yX3_anyHolds : MethodName := ⟨RX3, "anyHolds", "(I)Z"⟩
noncomputable def RX4 : String := "GustHome$Planner"
noncomputable def TX4 : u_T := fun k => match k with
  | 0 => ("GustHome$Planner", "wards", "[LGustHome$Ward;", true)
  | 1 => ("GustHome$Planner", "judge", "LGustHome$Judge;", true)
  | 2 => ("GustHome$Planner", "seekers", "[I", true)
  | 3 => ("GustHome$Planner", "choices", "[I", true)
  | 4 => ("GustHome$Planner", "size", "I", false)
  | 5 => ("GustHome$Planner", "choiceCount", "I", false)
  | 6 => ("GustHome$Planner", "odds", "[I", true)
  | 7 => ("GustHome$Planner", "space", "[I", true)
  | 8 => ("GustHome$Planner", "members", "[I", true)
  | 9 => ("GustHome$Planner", "cost", "[I", true)
  | 10 => ("GustHome$Planner", "row", "[I", true)
  | 11 => ("GustHome$Planner", "bestRow", "[I", true)
  | 12 => ("GustHome$Planner", "best", "I", false)
  | _ => ("GustHome$Planner", "ways", "[I", true)
noncomputable def tyX4 : Nat → FieldType := fun k => match k with
  | 0 => .array (.object "GustHome$Ward")
  | 1 => .object "GustHome$Judge"
  | 2 => .array .int
  | 3 => .array .int
  | 4 => .int
  | 5 => .int
  | 6 => .array .int
  | 7 => .array .int
  | 8 => .array .int
  | 9 => .array .int
  | 10 => .array .int
  | 11 => .array .int
  | 12 => .int
  | _ => .array .int
theorem nmX4 : ∀ a, a < 14 → ∀ b, b < 14 → a ≠ b → (TX4 a).2.1 ≠ (TX4 b).2.1 := by decide +kernel
theorem tyX4_ok : ∀ k, k < 14 → parseFieldDescriptor (TX4 k).2.2.1 = some (tyX4 k) := by decide +kernel
noncomputable abbrev cX4_init : ByteArray := prog_6_method_1_code
noncomputable def yX4_init : MethodName := ⟨RX4, "<init>", "([LGustHome$Ward;LGustHome$Judge;)V"⟩
noncomputable abbrev cX4_lodge : ByteArray := prog_6_method_2_code
noncomputable def yX4_lodge : MethodName := ⟨RX4, "lodge", "(LGustHome$State;II)Z"⟩
noncomputable abbrev cX4_staff : ByteArray := prog_6_method_3_code
noncomputable def yX4_staff : MethodName := ⟨RX4, "staff", "(LGustHome$State;II)V"⟩
noncomputable abbrev cX4_chosenFor : ByteArray := prog_6_method_4_code
noncomputable def yX4_chosenFor : MethodName := ⟨RX4, "chosenFor", "(II)I"⟩
noncomputable abbrev cX4_ring : ByteArray := prog_6_method_5_code
noncomputable def yX4_ring : MethodName := ⟨RX4, "ring", "(LGustHome$State;I)I"⟩
noncomputable abbrev cX4_ringAt : ByteArray := prog_6_method_6_code
noncomputable def yX4_ringAt : MethodName := ⟨RX4, "ringAt", "(I)I"⟩
noncomputable abbrev cX4_spread : ByteArray := prog_6_method_7_code
noncomputable def yX4_spread : MethodName := ⟨RX4, "spread", "(I[I)I"⟩
noncomputable abbrev cX4_learnOdds : ByteArray := prog_6_method_8_code
noncomputable def yX4_learnOdds : MethodName := ⟨RX4, "learnOdds", "(LGustHome$State;)V"⟩
noncomputable abbrev cX4_lodgeFrom : ByteArray := prog_6_method_9_code
noncomputable def yX4_lodgeFrom : MethodName := ⟨RX4, "lodgeFrom", "(II)V"⟩
noncomputable abbrev cX4_staffFrom : ByteArray := prog_6_method_10_code
noncomputable def yX4_staffFrom : MethodName := ⟨RX4, "staffFrom", "(III)V"⟩
noncomputable abbrev cX4_keepRow : ByteArray := prog_6_method_11_code
noncomputable def yX4_keepRow : MethodName := ⟨RX4, "keepRow", "(I)V"⟩
noncomputable abbrev cX4_waysOn : ByteArray := prog_6_method_12_code
noncomputable def yX4_waysOn : MethodName := ⟨RX4, "waysOn", "(III)I"⟩
noncomputable abbrev cX4_walkFirst : ByteArray := prog_6_method_13_code
noncomputable def yX4_walkFirst : MethodName := ⟨RX4, "walkFirst", "()V"⟩
noncomputable abbrev cX4_firstOn : ByteArray := prog_6_method_14_code
noncomputable def yX4_firstOn : MethodName := ⟨RX4, "firstOn", "(II)I"⟩
noncomputable def RX5 : String := "GustHome$Reader"
noncomputable def TX5 : u_T := fun k => match k with
  | 0 => ("GustHome$Reader", "tape", "LGustHome$Tape;", true)
  | 1 => ("GustHome$Reader", "draft", "LGustHome$Code;", false)
  | 2 => ("GustHome$Reader", "lessons", "[I", true)
  | 3 => ("GustHome$Reader", "months", "I", false)
  | 4 => ("GustHome$Reader", "at", "I", false)
  | 5 => ("GustHome$Reader", "end", "I", false)
  | _ => ("GustHome$Reader", "fault", "I", false)
noncomputable def tyX5 : Nat → FieldType := fun k => match k with
  | 0 => .object "GustHome$Tape"
  | 1 => .object "GustHome$Code"
  | 2 => .array .int
  | 3 => .int
  | 4 => .int
  | 5 => .int
  | _ => .int
theorem nmX5 : ∀ a, a < 7 → ∀ b, b < 7 → a ≠ b → (TX5 a).2.1 ≠ (TX5 b).2.1 := by decide +kernel
theorem tyX5_ok : ∀ k, k < 7 → parseFieldDescriptor (TX5 k).2.2.1 = some (tyX5 k) := by decide +kernel
noncomputable abbrev cX5_init : ByteArray := prog_7_method_1_code
noncomputable def yX5_init : MethodName := ⟨RX5, "<init>", "(LGustHome$Tape;)V"⟩
noncomputable abbrev cX5_readText : ByteArray := prog_7_method_2_code
noncomputable def yX5_readText : MethodName := ⟨RX5, "readText", "(IZ)I"⟩
noncomputable abbrev cX5_readTimetable : ByteArray := prog_7_method_3_code
noncomputable def yX5_readTimetable : MethodName := ⟨RX5, "readTimetable", "(I)I"⟩
noncomputable abbrev cX5_begin : ByteArray := prog_7_method_4_code
noncomputable def yX5_begin : MethodName := ⟨RX5, "begin", "(I)V"⟩
noncomputable abbrev cX5_here : ByteArray := prog_7_method_5_code
noncomputable def yX5_here : MethodName := ⟨RX5, "here", "()I"⟩
noncomputable abbrev cX5_fail : ByteArray := prog_7_method_6_code
noncomputable def yX5_fail : MethodName := ⟨RX5, "fail", "(II)V"⟩
noncomputable abbrev cX5_expect : ByteArray := prog_7_method_7_code
noncomputable def yX5_expect : MethodName := ⟨RX5, "expect", "(I)V"⟩
noncomputable abbrev cX5_opens : ByteArray := prog_7_method_8_code
noncomputable def yX5_opens : MethodName := ⟨RX5, "opens", "(I)Z"⟩
noncomputable abbrev cX5_readClause : ByteArray := prog_7_method_9_code
noncomputable def yX5_readClause : MethodName := ⟨RX5, "readClause", "()V"⟩
noncomputable abbrev cX5_readRule : ByteArray := prog_7_method_10_code
noncomputable def yX5_readRule : MethodName := ⟨RX5, "readRule", "()V"⟩
noncomputable abbrev cX5_readWhole : ByteArray := prog_7_method_11_code
noncomputable def yX5_readWhole : MethodName := ⟨RX5, "readWhole", "()V"⟩
noncomputable abbrev cX5_readBracket : ByteArray := prog_7_method_12_code
noncomputable def yX5_readBracket : MethodName := ⟨RX5, "readBracket", "(I)V"⟩
noncomputable abbrev cX5_readCondition : ByteArray := prog_7_method_13_code
noncomputable def yX5_readCondition : MethodName := ⟨RX5, "readCondition", "(I)V"⟩
noncomputable abbrev cX5_readPart : ByteArray := prog_7_method_14_code
noncomputable def yX5_readPart : MethodName := ⟨RX5, "readPart", "(I)V"⟩
noncomputable abbrev cX5_readTest : ByteArray := prog_7_method_15_code
noncomputable def yX5_readTest : MethodName := ⟨RX5, "readTest", "(I)V"⟩
noncomputable abbrev cX5_readSum : ByteArray := prog_7_method_16_code
noncomputable def yX5_readSum : MethodName := ⟨RX5, "readSum", "(I)V"⟩
noncomputable abbrev cX5_readTerm : ByteArray := prog_7_method_17_code
noncomputable def yX5_readTerm : MethodName := ⟨RX5, "readTerm", "(I)V"⟩
noncomputable abbrev cX5_readFactor : ByteArray := prog_7_method_18_code
noncomputable def yX5_readFactor : MethodName := ⟨RX5, "readFactor", "(I)V"⟩
noncomputable abbrev cX5_readNumber : ByteArray := prog_7_method_19_code
noncomputable def yX5_readNumber : MethodName := ⟨RX5, "readNumber", "()V"⟩
noncomputable abbrev cX5_readMonths : ByteArray := prog_7_method_20_code
noncomputable def yX5_readMonths : MethodName := ⟨RX5, "readMonths", "(I)V"⟩
noncomputable abbrev cX5_readMonth : ByteArray := prog_7_method_21_code
noncomputable def yX5_readMonth : MethodName := ⟨RX5, "readMonth", "(I)V"⟩
noncomputable abbrev cX5_readGroup : ByteArray := prog_7_method_22_code
noncomputable def yX5_readGroup : MethodName := ⟨RX5, "readGroup", "(I)V"⟩
noncomputable abbrev cX5_writeMonth : ByteArray := prog_7_method_23_code
noncomputable def yX5_writeMonth : MethodName := ⟨RX5, "writeMonth", "(I)V"⟩
noncomputable abbrev cX5_repeat : ByteArray := prog_7_method_24_code
noncomputable def yX5_repeat : MethodName := ⟨RX5, "repeat", "(III)V"⟩
noncomputable def RX6 : String := "GustHome$School"
noncomputable def TX6 : u_T := fun k => match k with
  | 0 => ("GustHome$School", "needed", "[I", true)
  | _ => ("GustHome$School", "row", "[I", true)
noncomputable def tyX6 : Nat → FieldType := fun k => match k with
  | 0 => .array .int
  | _ => .array .int
theorem nmX6 : ∀ a, a < 2 → ∀ b, b < 2 → a ≠ b → (TX6 a).2.1 ≠ (TX6 b).2.1 := by decide +kernel
theorem tyX6_ok : ∀ k, k < 2 → parseFieldDescriptor (TX6 k).2.2.1 = some (tyX6 k) := by decide +kernel
noncomputable abbrev cX6_init : ByteArray := prog_8_method_1_code
noncomputable def yX6_init : MethodName := ⟨RX6, "<init>", "()V"⟩
noncomputable abbrev cX6_order : ByteArray := prog_8_method_2_code
noncomputable def yX6_order : MethodName := ⟨RX6, "order", "(II)I"⟩
noncomputable abbrev cX6_withNeeds : ByteArray := prog_8_method_3_code
noncomputable def yX6_withNeeds : MethodName := ⟨RX6, "withNeeds", "(II)I"⟩
noncomputable abbrev cX6_lowestReady : ByteArray := prog_8_method_4_code
noncomputable def yX6_lowestReady : MethodName := ⟨RX6, "lowestReady", "(II)I"⟩
noncomputable def RX7 : String := "GustHome$State"
noncomputable def TX7 : u_T := fun k => match k with
  | 0 => ("GustHome$State", "told", "I", false)
  | 1 => ("GustHome$State", "strength", "[I", true)
  | 2 => ("GustHome$State", "quarter", "[I", true)
  | 3 => ("GustHome$State", "temper", "[I", true)
  | 4 => ("GustHome$State", "ward", "[I", true)
  | 5 => ("GustHome$State", "gale", "[I", true)
  | 6 => ("GustHome$State", "habits", "[I", true)
  | 7 => ("GustHome$State", "nursesTold", "I", false)
  | 8 => ("GustHome$State", "asthma", "[I", true)
  | 9 => ("GustHome$State", "ill", "[I", true)
  | 10 => ("GustHome$State", "place", "[I", true)
  | 11 => ("GustHome$State", "month", "I", false)
  | 12 => ("GustHome$State", "toys", "I", false)
  | 13 => ("GustHome$State", "whistles", "I", false)
  | _ => ("GustHome$State", "x", "I", false)
noncomputable def tyX7 : Nat → FieldType := fun k => match k with
  | 0 => .int
  | 1 => .array .int
  | 2 => .array .int
  | 3 => .array .int
  | 4 => .array .int
  | 5 => .array .int
  | 6 => .array .int
  | 7 => .int
  | 8 => .array .int
  | 9 => .array .int
  | 10 => .array .int
  | 11 => .int
  | 12 => .int
  | 13 => .int
  | _ => .int
theorem nmX7 : ∀ a, a < 15 → ∀ b, b < 15 → a ≠ b → (TX7 a).2.1 ≠ (TX7 b).2.1 := by decide +kernel
theorem tyX7_ok : ∀ k, k < 15 → parseFieldDescriptor (TX7 k).2.2.1 = some (tyX7 k) := by decide +kernel
noncomputable abbrev cX7_init : ByteArray := prog_9_method_1_code
noncomputable def yX7_init : MethodName := ⟨RX7, "<init>", "()V"⟩
noncomputable abbrev cX7_hasGust : ByteArray := prog_9_method_2_code
noncomputable def yX7_hasGust : MethodName := ⟨RX7, "hasGust", "(I)Z"⟩
noncomputable abbrev cX7_hasNurse : ByteArray := prog_9_method_3_code
noncomputable def yX7_hasNurse : MethodName := ⟨RX7, "hasNurse", "(I)Z"⟩
noncomputable abbrev cX7_works : ByteArray := prog_9_method_4_code
noncomputable def yX7_works : MethodName := ⟨RX7, "works", "(I)Z"⟩
noncomputable abbrev cX7_inWard : ByteArray := prog_9_method_5_code
noncomputable def yX7_inWard : MethodName := ⟨RX7, "inWard", "(I)I"⟩
noncomputable abbrev cX7_draw : ByteArray := prog_9_method_6_code
noncomputable def yX7_draw : MethodName := ⟨RX7, "draw", "()I"⟩
noncomputable abbrev cX7_copy : ByteArray := prog_9_method_7_code
noncomputable def yX7_copy : MethodName := ⟨RX7, "copy", "(LGustHome$State;)V"⟩
noncomputable def RX8 : String := "GustHome$Tape"
noncomputable def TX8 : u_T := fun k => match k with
  | 0 => ("GustHome$Tape", "bytes", "[I", true)
  | _ => ("GustHome$Tape", "size", "I", false)
noncomputable def tyX8 : Nat → FieldType := fun k => match k with
  | 0 => .array .int
  | _ => .int
theorem nmX8 : ∀ a, a < 2 → ∀ b, b < 2 → a ≠ b → (TX8 a).2.1 ≠ (TX8 b).2.1 := by decide +kernel
theorem tyX8_ok : ∀ k, k < 2 → parseFieldDescriptor (TX8 k).2.2.1 = some (tyX8 k) := by decide +kernel
noncomputable abbrev cX8_init : ByteArray := prog_10_method_1_code
noncomputable def yX8_init : MethodName := ⟨RX8, "<init>", "()V"⟩
noncomputable abbrev cX8_takes : ByteArray := prog_10_method_2_code
noncomputable def yX8_takes : MethodName := ⟨RX8, "takes", "(I)Z"⟩
noncomputable abbrev cX8_append : ByteArray := prog_10_method_3_code
noncomputable def yX8_append : MethodName := ⟨RX8, "append", "(I)V"⟩
noncomputable abbrev cX8_at : ByteArray := prog_10_method_4_code
noncomputable def yX8_at : MethodName := ⟨RX8, "at", "(I)I"⟩
noncomputable abbrev cX8_empty : ByteArray := prog_10_method_5_code
noncomputable def yX8_empty : MethodName := ⟨RX8, "empty", "()V"⟩
noncomputable def RX9 : String := "GustHome$Ward"
noncomputable def TX9 : u_T := fun k => match k with
  | 0 => ("GustHome$Ward", "lessons", "[I", true)
  | 1 => ("GustHome$Ward", "length", "I", false)
  | 2 => ("GustHome$Ward", "room", "I", false)
  | 3 => ("GustHome$Ward", "dust", "I", false)
  | _ => ("GustHome$Ward", "nurse", "I", false)
noncomputable def tyX9 : Nat → FieldType := fun k => match k with
  | 0 => .array .int
  | 1 => .int
  | 2 => .int
  | 3 => .int
  | _ => .int
theorem nmX9 : ∀ a, a < 5 → ∀ b, b < 5 → a ≠ b → (TX9 a).2.1 ≠ (TX9 b).2.1 := by decide +kernel
theorem tyX9_ok : ∀ k, k < 5 → parseFieldDescriptor (TX9 k).2.2.1 = some (tyX9 k) := by decide +kernel
noncomputable abbrev cX9_init : ByteArray := prog_11_method_1_code
noncomputable def yX9_init : MethodName := ⟨RX9, "<init>", "()V"⟩
noncomputable abbrev cX9_learnFrom : ByteArray := prog_11_method_2_code
noncomputable def yX9_learnFrom : MethodName := ⟨RX9, "learnFrom", "([II)V"⟩
noncomputable abbrev cX9_lessonAt : ByteArray := prog_11_method_3_code
noncomputable def yX9_lessonAt : MethodName := ⟨RX9, "lessonAt", "(I)I"⟩
noncomputable abbrev cX9_placeAfter : ByteArray := prog_11_method_4_code
noncomputable def yX9_placeAfter : MethodName := ⟨RX9, "placeAfter", "(I)I"⟩
noncomputable def RX10 : String := "GustHome$Winds"
noncomputable def TX10 : u_T := fun k => match k with
  | 0 => ("GustHome$Winds", "told", "I", false)
  | 1 => ("GustHome$Winds", "quarter", "[I", true)
  | 2 => ("GustHome$Winds", "limit", "[I", true)
  | 3 => ("GustHome$Winds", "load", "[I", true)
  | 4 => ("GustHome$Winds", "who", "[I", true)
  | 5 => ("GustHome$Winds", "size", "I", false)
  | 6 => ("GustHome$Winds", "strengthFrom", "[I", true)
  | 7 => ("GustHome$Winds", "row", "[I", true)
  | 8 => ("GustHome$Winds", "bestRow", "[I", true)
  | 9 => ("GustHome$Winds", "mostGo", "I", false)
  | _ => ("GustHome$Winds", "mostStrength", "I", false)
noncomputable def tyX10 : Nat → FieldType := fun k => match k with
  | 0 => .int
  | 1 => .array .int
  | 2 => .array .int
  | 3 => .array .int
  | 4 => .array .int
  | 5 => .int
  | 6 => .array .int
  | 7 => .array .int
  | 8 => .array .int
  | 9 => .int
  | _ => .int
theorem nmX10 : ∀ a, a < 11 → ∀ b, b < 11 → a ≠ b → (TX10 a).2.1 ≠ (TX10 b).2.1 := by decide +kernel
theorem tyX10_ok : ∀ k, k < 11 → parseFieldDescriptor (TX10 k).2.2.1 = some (tyX10 k) := by decide +kernel
noncomputable abbrev cX10_init : ByteArray := prog_12_method_1_code
noncomputable def yX10_init : MethodName := ⟨RX10, "<init>", "()V"⟩
noncomputable abbrev cX10_sendOff : ByteArray := prog_12_method_2_code
noncomputable def yX10_sendOff : MethodName := ⟨RX10, "sendOff", "(LGustHome$State;I)V"⟩
noncomputable abbrev cX10_windOf : ByteArray := prog_12_method_3_code
noncomputable def yX10_windOf : MethodName := ⟨RX10, "windOf", "(II)I"⟩
noncomputable abbrev cX10_sendFrom : ByteArray := prog_12_method_4_code
noncomputable def yX10_sendFrom : MethodName := ⟨RX10, "sendFrom", "(LGustHome$State;III)V"⟩
noncomputable abbrev cX10_mayBeat : ByteArray := prog_12_method_5_code
noncomputable def yX10_mayBeat : MethodName := ⟨RX10, "mayBeat", "(II)Z"⟩
noncomputable abbrev cX10_windOfGale : ByteArray := prog_12_method_6_code
noncomputable def yX10_windOfGale : MethodName := ⟨RX10, "windOfGale", "(LGustHome$State;I)I"⟩
noncomputable abbrev cX10_carries : ByteArray := prog_12_method_7_code
noncomputable def yX10_carries : MethodName := ⟨RX10, "carries", "(LGustHome$State;II)Z"⟩
noncomputable def RX11 : String := "GustHome"
noncomputable def TX11 : u_T := fun k => match k with
  | 0 => ("GustHome", "tape", "LGustHome$Tape;", true)
  | 1 => ("GustHome", "reader", "LGustHome$Reader;", true)
  | 2 => ("GustHome", "wards", "[LGustHome$Ward;", true)
  | 3 => ("GustHome", "judge", "LGustHome$Judge;", true)
  | 4 => ("GustHome", "calendar", "LGustHome$Calendar;", true)
  | 5 => ("GustHome", "planner", "LGustHome$Planner;", true)
  | 6 => ("GustHome", "winds", "LGustHome$Winds;", true)
  | 7 => ("GustHome", "houses", "LGustHome$Houses;", true)
  | 8 => ("GustHome", "school", "LGustHome$School;", true)
  | 9 => ("GustHome", "now", "LGustHome$State;", true)
  | 10 => ("GustHome", "kept", "LGustHome$State;", true)
  | 11 => ("GustHome", "trial", "LGustHome$State;", true)
  | 12 => ("GustHome", "homeHabits", "[I", true)
  | 13 => ("GustHome", "homesTold", "I", false)
  | _ => ("GustHome", "anyKept", "Z", false)
noncomputable def tyX11 : Nat → FieldType := fun k => match k with
  | 0 => .object "GustHome$Tape"
  | 1 => .object "GustHome$Reader"
  | 2 => .array (.object "GustHome$Ward")
  | 3 => .object "GustHome$Judge"
  | 4 => .object "GustHome$Calendar"
  | 5 => .object "GustHome$Planner"
  | 6 => .object "GustHome$Winds"
  | 7 => .object "GustHome$Houses"
  | 8 => .object "GustHome$School"
  | 9 => .object "GustHome$State"
  | 10 => .object "GustHome$State"
  | 11 => .object "GustHome$State"
  | 12 => .array .int
  | 13 => .int
  | _ => .boolean
theorem nmX11 : ∀ a, a < 15 → ∀ b, b < 15 → a ≠ b → (TX11 a).2.1 ≠ (TX11 b).2.1 := by decide +kernel
theorem tyX11_ok : ∀ k, k < 15 → parseFieldDescriptor (TX11 k).2.2.1 = some (tyX11 k) := by decide +kernel
noncomputable abbrev cX11_init : ByteArray := prog_1_method_1_code
noncomputable def yX11_init : MethodName := ⟨RX11, "<init>", "()V"⟩
noncomputable abbrev cX11_gust : ByteArray := prog_1_method_2_code
noncomputable def yX11_gust : MethodName := ⟨RX11, "gust", "(IIIII)Z"⟩
noncomputable abbrev cX11_name : ByteArray := prog_1_method_3_code
noncomputable def yX11_name : MethodName := ⟨RX11, "name", "(II)Z"⟩
noncomputable abbrev cX11_moves : ByteArray := prog_1_method_4_code
noncomputable def yX11_moves : MethodName := ⟨RX11, "moves", "(II)Z"⟩
noncomputable abbrev cX11_habit : ByteArray := prog_1_method_5_code
noncomputable def yX11_habit : MethodName := ⟨RX11, "habit", "(IIZ)Z"⟩
noncomputable abbrev cX11_ward : ByteArray := prog_1_method_6_code
noncomputable def yX11_ward : MethodName := ⟨RX11, "ward", "(IIII)Z"⟩
noncomputable abbrev cX11_nurse : ByteArray := prog_1_method_7_code
noncomputable def yX11_nurse : MethodName := ⟨RX11, "nurse", "(II)Z"⟩
noncomputable abbrev cX11_needs : ByteArray := prog_1_method_8_code
noncomputable def yX11_needs : MethodName := ⟨RX11, "needs", "(II)Z"⟩
noncomputable abbrev cX11_wind : ByteArray := prog_1_method_9_code
noncomputable def yX11_wind : MethodName := ⟨RX11, "wind", "(III)Z"⟩
noncomputable abbrev cX11_home : ByteArray := prog_1_method_10_code
noncomputable def yX11_home : MethodName := ⟨RX11, "home", "(II)Z"⟩
noncomputable abbrev cX11_house : ByteArray := prog_1_method_11_code
noncomputable def yX11_house : MethodName := ⟨RX11, "house", "(III)Z"⟩
noncomputable abbrev cX11_seed : ByteArray := prog_1_method_12_code
noncomputable def yX11_seed : MethodName := ⟨RX11, "seed", "(I)Z"⟩
noncomputable abbrev cX11_feed : ByteArray := prog_1_method_13_code
noncomputable def yX11_feed : MethodName := ⟨RX11, "feed", "(IIIII)I"⟩
noncomputable abbrev cX11_law : ByteArray := prog_1_method_14_code
noncomputable def yX11_law : MethodName := ⟨RX11, "law", "(I)I"⟩
noncomputable abbrev cX11_rules : ByteArray := prog_1_method_15_code
noncomputable def yX11_rules : MethodName := ⟨RX11, "rules", "(I)I"⟩
noncomputable abbrev cX11_timetable : ByteArray := prog_1_method_16_code
noncomputable def yX11_timetable : MethodName := ⟨RX11, "timetable", "(II)I"⟩
noncomputable abbrev cX11_months : ByteArray := prog_1_method_17_code
noncomputable def yX11_months : MethodName := ⟨RX11, "months", "(I)I"⟩
noncomputable abbrev cX11_tried : ByteArray := prog_1_method_18_code
noncomputable def yX11_tried : MethodName := ⟨RX11, "tried", "(II)I"⟩
noncomputable abbrev cX11_gustIs : ByteArray := prog_1_method_19_code
noncomputable def yX11_gustIs : MethodName := ⟨RX11, "gustIs", "(II)I"⟩
noncomputable abbrev cX11_wardIs : ByteArray := prog_1_method_20_code
noncomputable def yX11_wardIs : MethodName := ⟨RX11, "wardIs", "(II)I"⟩
noncomputable abbrev cX11_nurseIs : ByteArray := prog_1_method_21_code
noncomputable def yX11_nurseIs : MethodName := ⟨RX11, "nurseIs", "(II)I"⟩
noncomputable abbrev cX11_quarrel : ByteArray := prog_1_method_22_code
noncomputable def yX11_quarrel : MethodName := ⟨RX11, "quarrel", "(II)I"⟩
noncomputable abbrev cX11_count : ByteArray := prog_1_method_23_code
noncomputable def yX11_count : MethodName := ⟨RX11, "count", "(I)I"⟩
noncomputable abbrev cX11_added : ByteArray := prog_1_method_24_code
noncomputable def yX11_added : MethodName := ⟨RX11, "added", "(II)I"⟩
noncomputable abbrev cX11_housed : ByteArray := prog_1_method_25_code
noncomputable def yX11_housed : MethodName := ⟨RX11, "housed", "(III)I"⟩
noncomputable abbrev cX11_leaving : ByteArray := prog_1_method_26_code
noncomputable def yX11_leaving : MethodName := ⟨RX11, "leaving", "(II)I"⟩
noncomputable abbrev cX11_letGo : ByteArray := prog_1_method_27_code
noncomputable def yX11_letGo : MethodName := ⟨RX11, "letGo", "(I)I"⟩
noncomputable abbrev cX11_from : ByteArray := prog_1_method_28_code
noncomputable def yX11_from : MethodName := ⟨RX11, "from", "(III)I"⟩
noncomputable abbrev cX11_taught : ByteArray := prog_1_method_29_code
noncomputable def yX11_taught : MethodName := ⟨RX11, "taught", "(III)I"⟩
noncomputable abbrev cX11_placed : ByteArray := prog_1_method_30_code
noncomputable def yX11_placed : MethodName := ⟨RX11, "placed", "(II)I"⟩
noncomputable abbrev cX11_fair : ByteArray := prog_1_method_31_code
noncomputable def yX11_fair : MethodName := ⟨RX11, "fair", "(I)I"⟩
noncomputable abbrev cX11_escaped : ByteArray := prog_1_method_32_code
noncomputable def yX11_escaped : MethodName := ⟨RX11, "escaped", "(IIII)I"⟩
noncomputable abbrev cX11_nursed : ByteArray := prog_1_method_33_code
noncomputable def yX11_nursed : MethodName := ⟨RX11, "nursed", "(III)I"⟩
noncomputable abbrev cX11_round : ByteArray := prog_1_method_34_code
noncomputable def yX11_round : MethodName := ⟨RX11, "round", "(II)I"⟩
noncomputable abbrev cX11_keep : ByteArray := prog_1_method_35_code
noncomputable def yX11_keep : MethodName := ⟨RX11, "keep", "()I"⟩
noncomputable abbrev cX11_undo : ByteArray := prog_1_method_36_code
noncomputable def yX11_undo : MethodName := ⟨RX11, "undo", "()Z"⟩
noncomputable abbrev cX11_check : ByteArray := prog_1_method_37_code
noncomputable def yX11_check : MethodName := ⟨RX11, "check", "(I)I"⟩
noncomputable abbrev cX11_within : ByteArray := prog_1_method_38_code
noncomputable def yX11_within : MethodName := ⟨RX11, "within", "(II)Z"⟩
noncomputable abbrev cX11_isIn : ByteArray := prog_1_method_39_code
noncomputable def yX11_isIn : MethodName := ⟨RX11, "isIn", "(II)Z"⟩
noncomputable abbrev cX11_placeIn : ByteArray := prog_1_method_40_code
noncomputable def yX11_placeIn : MethodName := ⟨RX11, "placeIn", "(II)I"⟩
noncomputable abbrev cX11_chosen : ByteArray := prog_1_method_41_code
noncomputable def yX11_chosen : MethodName := ⟨RX11, "chosen", "(III)Z"⟩
noncomputable abbrev cX11_wardAt : ByteArray := prog_1_method_42_code
noncomputable def yX11_wardAt : MethodName := ⟨RX11, "wardAt", "(I)LGustHome$Ward;"⟩
noncomputable abbrev cX11_northward : ByteArray := prog_1_method_43_code
noncomputable def yX11_northward : MethodName := ⟨RX11, "northward", "(II)I"⟩
noncomputable abbrev cX11_homesLike : ByteArray := prog_1_method_44_code
noncomputable def yX11_homesLike : MethodName := ⟨RX11, "homesLike", "(II)I"⟩
noncomputable abbrev cX11_mostTelling : ByteArray := prog_1_method_45_code
noncomputable def yX11_mostTelling : MethodName := ⟨RX11, "mostTelling", "(II)I"⟩
noncomputable abbrev cX11_homesWith : ByteArray := prog_1_method_46_code
noncomputable def yX11_homesWith : MethodName := ⟨RX11, "homesWith", "(II)I"⟩
noncomputable abbrev cX11_sought : ByteArray := prog_1_method_47_code
noncomputable def yX11_sought : MethodName := ⟨RX11, "sought", "(IIII)I"⟩
noncomputable abbrev cX11_sightingsStand : ByteArray := prog_1_method_48_code
noncomputable def yX11_sightingsStand : MethodName := ⟨RX11, "sightingsStand", "(I)Z"⟩
noncomputable abbrev cX11_sightingsAgree : ByteArray := prog_1_method_49_code
noncomputable def yX11_sightingsAgree : MethodName := ⟨RX11, "sightingsAgree", "(II)Z"⟩
noncomputable def RX12 : String := "GustHomeModel"
noncomputable def TX12 : u_T := fun k => match k with
  | 0 => ("GustHomeModel", "tape", "[B", true)
  | 1 => ("GustHomeModel", "taped", "I", false)
  | 2 => ("GustHomeModel", "luck", "I", false)
  | 3 => ("GustHomeModel", "place", "I", false)
  | 4 => ("GustHomeModel", "end", "I", false)
  | 5 => ("GustHomeModel", "bad", "I", false)
  | 6 => ("GustHomeModel", "clauses", "I", false)
  | 7 => ("GustHomeModel", "codes", "I", false)
  | 8 => ("GustHomeModel", "open", "I", false)
  | 9 => ("GustHomeModel", "stacked", "I", false)
  | 10 => ("GustHomeModel", "clauseLetter", "[I", true)
  | 11 => ("GustHomeModel", "sumFrom", "[I", true)
  | 12 => ("GustHomeModel", "codeFrom", "[I", true)
  | 13 => ("GustHomeModel", "codeTo", "[I", true)
  | 14 => ("GustHomeModel", "code", "[I", true)
  | 15 => ("GustHomeModel", "codeArg", "[I", true)
  | 16 => ("GustHomeModel", "clauseMany", "I", false)
  | 17 => ("GustHomeModel", "ruleMany", "I", false)
  | 18 => ("GustHomeModel", "newLetter", "[I", true)
  | 19 => ("GustHomeModel", "newSum", "[I", true)
  | 20 => ("GustHomeModel", "newFrom", "[I", true)
  | 21 => ("GustHomeModel", "newTo", "[I", true)
  | 22 => ("GustHomeModel", "newCode", "[I", true)
  | 23 => ("GustHomeModel", "newArg", "[I", true)
  | 24 => ("GustHomeModel", "isOver", "Z", false)
  | 25 => ("GustHomeModel", "isBehind", "Z", false)
  | 26 => ("GustHomeModel", "stack", "[I", true)
  | 27 => ("GustHomeModel", "asStrength", "I", false)
  | 28 => ("GustHomeModel", "asQuarter", "I", false)
  | 29 => ("GustHomeModel", "asTemper", "I", false)
  | 30 => ("GustHomeModel", "asHabits", "I", false)
  | 31 => ("GustHomeModel", "asDust", "I", false)
  | 32 => ("GustHomeModel", "asWard", "I", false)
  | 33 => ("GustHomeModel", "asOther", "I", false)
  | 34 => ("GustHomeModel", "asOtherQuarter", "I", false)
  | 35 => ("GustHomeModel", "asLesson", "I", false)
  | 36 => ("GustHomeModel", "asAsthma", "I", false)
  | 37 => ("GustHomeModel", "asMany", "I", false)
  | 38 => ("GustHomeModel", "asTogether", "I", false)
  | 39 => ("GustHomeModel", "asToys", "I", false)
  | 40 => ("GustHomeModel", "asWhistles", "I", false)
  | 41 => ("GustHomeModel", "worths", "[I", true)
  | 42 => ("GustHomeModel", "isRefused", "[Z", true)
  | 43 => ("GustHomeModel", "isGust", "[Z", true)
  | 44 => ("GustHomeModel", "strengths", "[I", true)
  | 45 => ("GustHomeModel", "quarters", "[I", true)
  | 46 => ("GustHomeModel", "tempers", "[I", true)
  | 47 => ("GustHomeModel", "wardOf", "[I", true)
  | 48 => ("GustHomeModel", "galeOf", "[I", true)
  | 49 => ("GustHomeModel", "habitsOf", "[I", true)
  | 50 => ("GustHomeModel", "rooms", "[I", true)
  | 51 => ("GustHomeModel", "dusts", "[I", true)
  | 52 => ("GustHomeModel", "nurseOf", "[I", true)
  | 53 => ("GustHomeModel", "table", "[I", true)
  | 54 => ("GustHomeModel", "tableMany", "[I", true)
  | 55 => ("GustHomeModel", "tableAt", "[I", true)
  | 56 => ("GustHomeModel", "isNurse", "[Z", true)
  | 57 => ("GustHomeModel", "asthmas", "[I", true)
  | 58 => ("GustHomeModel", "ills", "[I", true)
  | 59 => ("GustHomeModel", "needOf", "[I", true)
  | 60 => ("GustHomeModel", "monthNow", "I", false)
  | 61 => ("GustHomeModel", "toysNow", "I", false)
  | 62 => ("GustHomeModel", "whistlesNow", "I", false)
  | 63 => ("GustHomeModel", "newTable", "[I", true)
  | 64 => ("GustHomeModel", "newMany", "I", false)
  | 65 => ("GustHomeModel", "openMany", "I", false)
  | 66 => ("GustHomeModel", "isBegun", "Z", false)
  | 67 => ("GustHomeModel", "openFrom", "[I", true)
  | 68 => ("GustHomeModel", "openTimes", "[I", true)
  | 69 => ("GustHomeModel", "openPlace", "[I", true)
  | 70 => ("GustHomeModel", "learnt", "I", false)
  | 71 => ("GustHomeModel", "toysThen", "I", false)
  | 72 => ("GustHomeModel", "whistlesThen", "I", false)
  | 73 => ("GustHomeModel", "fell", "I", false)
  | 74 => ("GustHomeModel", "broken", "I", false)
  | 75 => ("GustHomeModel", "firstRule", "I", false)
  | 76 => ("GustHomeModel", "firstWard", "I", false)
  | 77 => ("GustHomeModel", "asideGust", "[Z", true)
  | 78 => ("GustHomeModel", "asideStrength", "[I", true)
  | 79 => ("GustHomeModel", "asideQuarter", "[I", true)
  | 80 => ("GustHomeModel", "asideTemper", "[I", true)
  | 81 => ("GustHomeModel", "asideWard", "[I", true)
  | 82 => ("GustHomeModel", "asideGale", "[I", true)
  | 83 => ("GustHomeModel", "asideHabits", "[I", true)
  | 84 => ("GustHomeModel", "asideNurse", "[Z", true)
  | 85 => ("GustHomeModel", "asideAsthma", "[I", true)
  | 86 => ("GustHomeModel", "asideIll", "[I", true)
  | 87 => ("GustHomeModel", "asideAt", "[I", true)
  | 88 => ("GustHomeModel", "asideMonth", "[I", true)
  | 89 => ("GustHomeModel", "asideToys", "[I", true)
  | 90 => ("GustHomeModel", "asideWhistles", "[I", true)
  | 91 => ("GustHomeModel", "asideLuck", "[I", true)
  | 92 => ("GustHomeModel", "isKept", "Z", false)
  | 93 => ("GustHomeModel", "some", "[I", true)
  | 94 => ("GustHomeModel", "places", "[I", true)
  | 95 => ("GustHomeModel", "rowNow", "[I", true)
  | 96 => ("GustHomeModel", "bestRow", "[I", true)
  | 97 => ("GustHomeModel", "isWind", "[Z", true)
  | 98 => ("GustHomeModel", "windQuarter", "[I", true)
  | 99 => ("GustHomeModel", "windLimit", "[I", true)
  | 100 => ("GustHomeModel", "goneNow", "I", false)
  | 101 => ("GustHomeModel", "strongNow", "I", false)
  | 102 => ("GustHomeModel", "mostGone", "I", false)
  | 103 => ("GustHomeModel", "mostStrong", "I", false)
  | 104 => ("GustHomeModel", "isHome", "[Z", true)
  | 105 => ("GustHomeModel", "homeHabits", "[I", true)
  | 106 => ("GustHomeModel", "lessons", "[I", true)
  | 107 => ("GustHomeModel", "lessonMany", "I", false)
  | 108 => ("GustHomeModel", "isHouse", "[Z", true)
  | 109 => ("GustHomeModel", "rises", "[I", true)
  | 110 => ("GustHomeModel", "wanted", "[I", true)
  | 111 => ("GustHomeModel", "keptIn", "[I", true)
  | 112 => ("GustHomeModel", "askedAll", "[I", true)
  | 113 => ("GustHomeModel", "lowAhead", "[I", true)
  | 114 => ("GustHomeModel", "highAhead", "[I", true)
  | 115 => ("GustHomeModel", "lowBehind", "[I", true)
  | 116 => ("GustHomeModel", "highBehind", "[I", true)
  | 117 => ("GustHomeModel", "ringWays", "[I", true)
  | _ => ("GustHomeModel", "isPeace", "[Z", true)
noncomputable def tyX12 : Nat → FieldType := fun k => match k with
  | 0 => .array .byte
  | 1 => .int
  | 2 => .int
  | 3 => .int
  | 4 => .int
  | 5 => .int
  | 6 => .int
  | 7 => .int
  | 8 => .int
  | 9 => .int
  | 10 => .array .int
  | 11 => .array .int
  | 12 => .array .int
  | 13 => .array .int
  | 14 => .array .int
  | 15 => .array .int
  | 16 => .int
  | 17 => .int
  | 18 => .array .int
  | 19 => .array .int
  | 20 => .array .int
  | 21 => .array .int
  | 22 => .array .int
  | 23 => .array .int
  | 24 => .boolean
  | 25 => .boolean
  | 26 => .array .int
  | 27 => .int
  | 28 => .int
  | 29 => .int
  | 30 => .int
  | 31 => .int
  | 32 => .int
  | 33 => .int
  | 34 => .int
  | 35 => .int
  | 36 => .int
  | 37 => .int
  | 38 => .int
  | 39 => .int
  | 40 => .int
  | 41 => .array .int
  | 42 => .array .boolean
  | 43 => .array .boolean
  | 44 => .array .int
  | 45 => .array .int
  | 46 => .array .int
  | 47 => .array .int
  | 48 => .array .int
  | 49 => .array .int
  | 50 => .array .int
  | 51 => .array .int
  | 52 => .array .int
  | 53 => .array .int
  | 54 => .array .int
  | 55 => .array .int
  | 56 => .array .boolean
  | 57 => .array .int
  | 58 => .array .int
  | 59 => .array .int
  | 60 => .int
  | 61 => .int
  | 62 => .int
  | 63 => .array .int
  | 64 => .int
  | 65 => .int
  | 66 => .boolean
  | 67 => .array .int
  | 68 => .array .int
  | 69 => .array .int
  | 70 => .int
  | 71 => .int
  | 72 => .int
  | 73 => .int
  | 74 => .int
  | 75 => .int
  | 76 => .int
  | 77 => .array .boolean
  | 78 => .array .int
  | 79 => .array .int
  | 80 => .array .int
  | 81 => .array .int
  | 82 => .array .int
  | 83 => .array .int
  | 84 => .array .boolean
  | 85 => .array .int
  | 86 => .array .int
  | 87 => .array .int
  | 88 => .array .int
  | 89 => .array .int
  | 90 => .array .int
  | 91 => .array .int
  | 92 => .boolean
  | 93 => .array .int
  | 94 => .array .int
  | 95 => .array .int
  | 96 => .array .int
  | 97 => .array .boolean
  | 98 => .array .int
  | 99 => .array .int
  | 100 => .int
  | 101 => .int
  | 102 => .int
  | 103 => .int
  | 104 => .array .boolean
  | 105 => .array .int
  | 106 => .array .int
  | 107 => .int
  | 108 => .array .boolean
  | 109 => .array .int
  | 110 => .array .int
  | 111 => .array .int
  | 112 => .array .int
  | 113 => .array .int
  | 114 => .array .int
  | 115 => .array .int
  | 116 => .array .int
  | 117 => .array .int
  | _ => .array .boolean
theorem nmX12 : ∀ a, a < 119 → ∀ b, b < 119 → a ≠ b → (TX12 a).2.1 ≠ (TX12 b).2.1 := by decide +kernel
theorem tyX12_ok : ∀ k, k < 119 → parseFieldDescriptor (TX12 k).2.2.1 = some (tyX12 k) := by decide +kernel
noncomputable abbrev cX12_init : ByteArray := prog_14_method_1_code
noncomputable def yX12_init : MethodName := ⟨RX12, "<init>", "()V"⟩
noncomputable abbrev cX12_lies : ByteArray := prog_14_method_2_code
noncomputable def yX12_lies : MethodName := ⟨RX12, "lies", "(JJJ)Z"⟩
noncomputable abbrev cX12_has : ByteArray := prog_14_method_3_code
noncomputable def yX12_has : MethodName := ⟨RX12, "has", "(II)Z"⟩
noncomputable abbrev cX12_sizeOf : ByteArray := prog_14_method_4_code
noncomputable def yX12_sizeOf : MethodName := ⟨RX12, "sizeOf", "(I)I"⟩
noncomputable abbrev cX12_held : ByteArray := prog_14_method_5_code
noncomputable def yX12_held : MethodName := ⟨RX12, "held", "(II)I"⟩
noncomputable abbrev cX12_push : ByteArray := prog_14_method_6_code
noncomputable def yX12_push : MethodName := ⟨RX12, "push", "(I)V"⟩
noncomputable abbrev cX12_feed : ByteArray := prog_14_method_7_code
noncomputable def yX12_feed : MethodName := ⟨RX12, "feed", "(IIIII)I"⟩
noncomputable abbrev cX12_byteAt : ByteArray := prog_14_method_8_code
noncomputable def yX12_byteAt : MethodName := ⟨RX12, "byteAt", "(I)I"⟩
noncomputable abbrev cX12_here : ByteArray := prog_14_method_9_code
noncomputable def yX12_here : MethodName := ⟨RX12, "here", "()I"⟩
noncomputable abbrev cX12_wrongs : ByteArray := prog_14_method_10_code
noncomputable def yX12_wrongs : MethodName := ⟨RX12, "wrongs", "(II)V"⟩
noncomputable abbrev cX12_isGood : ByteArray := prog_14_method_11_code
noncomputable def yX12_isGood : MethodName := ⟨RX12, "isGood", "()Z"⟩
noncomputable abbrev cX12_seesDigit : ByteArray := prog_14_method_12_code
noncomputable def yX12_seesDigit : MethodName := ⟨RX12, "seesDigit", "()Z"⟩
noncomputable abbrev cX12_begins : ByteArray := prog_14_method_13_code
noncomputable def yX12_begins : MethodName := ⟨RX12, "begins", "(I)V"⟩
noncomputable abbrev cX12_emit : ByteArray := prog_14_method_14_code
noncomputable def yX12_emit : MethodName := ⟨RX12, "emit", "(II)V"⟩
noncomputable abbrev cX12_top : ByteArray := prog_14_method_15_code
noncomputable def yX12_top : MethodName := ⟨RX12, "top", "()I"⟩
noncomputable abbrev cX12_puts : ByteArray := prog_14_method_16_code
noncomputable def yX12_puts : MethodName := ⟨RX12, "puts", "(I)V"⟩
noncomputable abbrev cX12_opens : ByteArray := prog_14_method_17_code
noncomputable def yX12_opens : MethodName := ⟨RX12, "opens", "()V"⟩
noncomputable abbrev cX12_reads : ByteArray := prog_14_method_18_code
noncomputable def yX12_reads : MethodName := ⟨RX12, "reads", "()I"⟩
noncomputable abbrev cX12_isTimes : ByteArray := prog_14_method_19_code
noncomputable def yX12_isTimes : MethodName := ⟨RX12, "isTimes", "(I)Z"⟩
noncomputable abbrev cX12_isPlus : ByteArray := prog_14_method_20_code
noncomputable def yX12_isPlus : MethodName := ⟨RX12, "isPlus", "(I)Z"⟩
noncomputable abbrev cX12_isCompared : ByteArray := prog_14_method_21_code
noncomputable def yX12_isCompared : MethodName := ⟨RX12, "isCompared", "(I)Z"⟩
noncomputable abbrev cX12_isValue : ByteArray := prog_14_method_22_code
noncomputable def yX12_isValue : MethodName := ⟨RX12, "isValue", "(I)Z"⟩
noncomputable abbrev cX12_sums : ByteArray := prog_14_method_23_code
noncomputable def yX12_sums : MethodName := ⟨RX12, "sums", "(Z)V"⟩
noncomputable abbrev cX12_joins : ByteArray := prog_14_method_24_code
noncomputable def yX12_joins : MethodName := ⟨RX12, "joins", "(Z)V"⟩
noncomputable abbrev cX12_ends : ByteArray := prog_14_method_25_code
noncomputable def yX12_ends : MethodName := ⟨RX12, "ends", "()V"⟩
noncomputable abbrev cX12_factor : ByteArray := prog_14_method_26_code
noncomputable def yX12_factor : MethodName := ⟨RX12, "factor", "()V"⟩
noncomputable abbrev cX12_stays : ByteArray := prog_14_method_27_code
noncomputable def yX12_stays : MethodName := ⟨RX12, "stays", "()Z"⟩
noncomputable abbrev cX12_value : ByteArray := prog_14_method_28_code
noncomputable def yX12_value : MethodName := ⟨RX12, "value", "()V"⟩
noncomputable abbrev cX12_pieceOfC : ByteArray := prog_14_method_29_code
noncomputable def yX12_pieceOfC : MethodName := ⟨RX12, "pieceOfC", "()V"⟩
noncomputable abbrev cX12_goesBehind : ByteArray := prog_14_method_30_code
noncomputable def yX12_goesBehind : MethodName := ⟨RX12, "goesBehind", "()Z"⟩
noncomputable abbrev cX12_condition : ByteArray := prog_14_method_31_code
noncomputable def yX12_condition : MethodName := ⟨RX12, "condition", "()V"⟩
noncomputable abbrev cX12_isClause : ByteArray := prog_14_method_32_code
noncomputable def yX12_isClause : MethodName := ⟨RX12, "isClause", "(I)Z"⟩
noncomputable abbrev cX12_clause : ByteArray := prog_14_method_33_code
noncomputable def yX12_clause : MethodName := ⟨RX12, "clause", "(Z)V"⟩
noncomputable abbrev cX12_takesText : ByteArray := prog_14_method_34_code
noncomputable def yX12_takesText : MethodName := ⟨RX12, "takesText", "(IZ)I"⟩
noncomputable abbrev cX12_law : ByteArray := prog_14_method_35_code
noncomputable def yX12_law : MethodName := ⟨RX12, "law", "(I)I"⟩
noncomputable abbrev cX12_rules : ByteArray := prog_14_method_36_code
noncomputable def yX12_rules : MethodName := ⟨RX12, "rules", "(I)I"⟩
noncomputable abbrev cX12_valueOf : ByteArray := prog_14_method_37_code
noncomputable def yX12_valueOf : MethodName := ⟨RX12, "valueOf", "(I)I"⟩
noncomputable abbrev cX12_worked : ByteArray := prog_14_method_38_code
noncomputable def yX12_worked : MethodName := ⟨RX12, "worked", "(III)I"⟩
noncomputable abbrev cX12_does : ByteArray := prog_14_method_39_code
noncomputable def yX12_does : MethodName := ⟨RX12, "does", "(II)V"⟩
noncomputable abbrev cX12_works : ByteArray := prog_14_method_40_code
noncomputable def yX12_works : MethodName := ⟨RX12, "works", "(II)V"⟩
noncomputable abbrev cX12_isSo : ByteArray := prog_14_method_41_code
noncomputable def yX12_isSo : MethodName := ⟨RX12, "isSo", "(I)Z"⟩
noncomputable abbrev cX12_tells : ByteArray := prog_14_method_42_code
noncomputable def yX12_tells : MethodName := ⟨RX12, "tells", "(II)I"⟩
noncomputable abbrev cX12_says : ByteArray := prog_14_method_43_code
noncomputable def yX12_says : MethodName := ⟨RX12, "says", "(I)Z"⟩
noncomputable abbrev cX12_nothingStands : ByteArray := prog_14_method_44_code
noncomputable def yX12_nothingStands : MethodName := ⟨RX12, "nothingStands", "()V"⟩
noncomputable abbrev cX12_gustStands : ByteArray := prog_14_method_45_code
noncomputable def yX12_gustStands : MethodName := ⟨RX12, "gustStands", "(I)V"⟩
noncomputable abbrev cX12_falling : ByteArray := prog_14_method_46_code
noncomputable def yX12_falling : MethodName := ⟨RX12, "falling", "(II)I"⟩
noncomputable abbrev cX12_isKeptBy : ByteArray := prog_14_method_47_code
noncomputable def yX12_isKeptBy : MethodName := ⟨RX12, "isKeptBy", "(II)Z"⟩
noncomputable abbrev cX12_isAngry : ByteArray := prog_14_method_48_code
noncomputable def yX12_isAngry : MethodName := ⟨RX12, "isAngry", "(II)Z"⟩
noncomputable abbrev cX12_doQuarrel : ByteArray := prog_14_method_49_code
noncomputable def yX12_doQuarrel : MethodName := ⟨RX12, "doQuarrel", "(II)Z"⟩
noncomputable abbrev cX12_isTold : ByteArray := prog_14_method_50_code
noncomputable def yX12_isTold : MethodName := ⟨RX12, "isTold", "(I)Z"⟩
noncomputable abbrev cX12_isWard : ByteArray := prog_14_method_51_code
noncomputable def yX12_isWard : MethodName := ⟨RX12, "isWard", "(I)Z"⟩
noncomputable abbrev cX12_isThere : ByteArray := prog_14_method_52_code
noncomputable def yX12_isThere : MethodName := ⟨RX12, "isThere", "(I)Z"⟩
noncomputable abbrev cX12_areHabits : ByteArray := prog_14_method_53_code
noncomputable def yX12_areHabits : MethodName := ⟨RX12, "areHabits", "(I)Z"⟩
noncomputable abbrev cX12_isIn : ByteArray := prog_14_method_54_code
noncomputable def yX12_isIn : MethodName := ⟨RX12, "isIn", "(II)Z"⟩
noncomputable abbrev cX12_manyIn : ByteArray := prog_14_method_55_code
noncomputable def yX12_manyIn : MethodName := ⟨RX12, "manyIn", "(I)I"⟩
noncomputable abbrev cX12_togetherIn : ByteArray := prog_14_method_56_code
noncomputable def yX12_togetherIn : MethodName := ⟨RX12, "togetherIn", "(I)I"⟩
noncomputable abbrev cX12_gust : ByteArray := prog_14_method_57_code
noncomputable def yX12_gust : MethodName := ⟨RX12, "gust", "(IIIII)Z"⟩
noncomputable abbrev cX12_name : ByteArray := prog_14_method_58_code
noncomputable def yX12_name : MethodName := ⟨RX12, "name", "(II)Z"⟩
noncomputable abbrev cX12_moves : ByteArray := prog_14_method_59_code
noncomputable def yX12_moves : MethodName := ⟨RX12, "moves", "(II)Z"⟩
noncomputable abbrev cX12_habit : ByteArray := prog_14_method_60_code
noncomputable def yX12_habit : MethodName := ⟨RX12, "habit", "(IIZ)Z"⟩
noncomputable abbrev cX12_ward : ByteArray := prog_14_method_61_code
noncomputable def yX12_ward : MethodName := ⟨RX12, "ward", "(IIII)Z"⟩
noncomputable abbrev cX12_nurse : ByteArray := prog_14_method_62_code
noncomputable def yX12_nurse : MethodName := ⟨RX12, "nurse", "(II)Z"⟩
noncomputable abbrev cX12_needs : ByteArray := prog_14_method_63_code
noncomputable def yX12_needs : MethodName := ⟨RX12, "needs", "(II)Z"⟩
noncomputable abbrev cX12_repeats : ByteArray := prog_14_method_64_code
noncomputable def yX12_repeats : MethodName := ⟨RX12, "repeats", "(III)V"⟩
noncomputable abbrev cX12_timesTold : ByteArray := prog_14_method_65_code
noncomputable def yX12_timesTold : MethodName := ⟨RX12, "timesTold", "()I"⟩
noncomputable abbrev cX12_monthTold : ByteArray := prog_14_method_66_code
noncomputable def yX12_monthTold : MethodName := ⟨RX12, "monthTold", "()V"⟩
noncomputable abbrev cX12_timetable : ByteArray := prog_14_method_67_code
noncomputable def yX12_timetable : MethodName := ⟨RX12, "timetable", "(II)I"⟩
noncomputable abbrev cX12_lessonOf : ByteArray := prog_14_method_68_code
noncomputable def yX12_lessonOf : MethodName := ⟨RX12, "lessonOf", "(I)I"⟩
noncomputable abbrev cX12_draw : ByteArray := prog_14_method_69_code
noncomputable def yX12_draw : MethodName := ⟨RX12, "draw", "()I"⟩
noncomputable abbrev cX12_weakens : ByteArray := prog_14_method_70_code
noncomputable def yX12_weakens : MethodName := ⟨RX12, "weakens", "()V"⟩
noncomputable abbrev cX12_isWell : ByteArray := prog_14_method_71_code
noncomputable def yX12_isWell : MethodName := ⟨RX12, "isWell", "(I)Z"⟩
noncomputable abbrev cX12_feeds : ByteArray := prog_14_method_72_code
noncomputable def yX12_feeds : MethodName := ⟨RX12, "feeds", "(I)V"⟩
noncomputable abbrev cX12_teaches : ByteArray := prog_14_method_73_code
noncomputable def yX12_teaches : MethodName := ⟨RX12, "teaches", "(I)V"⟩
noncomputable abbrev cX12_wardsGo : ByteArray := prog_14_method_74_code
noncomputable def yX12_wardsGo : MethodName := ⟨RX12, "wardsGo", "()V"⟩
noncomputable abbrev cX12_breaks : ByteArray := prog_14_method_75_code
noncomputable def yX12_breaks : MethodName := ⟨RX12, "breaks", "()V"⟩
noncomputable abbrev cX12_whistle : ByteArray := prog_14_method_76_code
noncomputable def yX12_whistle : MethodName := ⟨RX12, "whistle", "()V"⟩
noncomputable abbrev cX12_nursesGo : ByteArray := prog_14_method_77_code
noncomputable def yX12_nursesGo : MethodName := ⟨RX12, "nursesGo", "()V"⟩
noncomputable abbrev cX12_judges : ByteArray := prog_14_method_78_code
noncomputable def yX12_judges : MethodName := ⟨RX12, "judges", "()V"⟩
noncomputable abbrev cX12_go : ByteArray := prog_14_method_79_code
noncomputable def yX12_go : MethodName := ⟨RX12, "go", "(I)V"⟩
noncomputable abbrev cX12_months : ByteArray := prog_14_method_80_code
noncomputable def yX12_months : MethodName := ⟨RX12, "months", "(I)I"⟩
noncomputable abbrev cX12_laysAside : ByteArray := prog_14_method_81_code
noncomputable def yX12_laysAside : MethodName := ⟨RX12, "laysAside", "(I)V"⟩
noncomputable abbrev cX12_bringsBack : ByteArray := prog_14_method_82_code
noncomputable def yX12_bringsBack : MethodName := ⟨RX12, "bringsBack", "(I)V"⟩
noncomputable abbrev cX12_tried : ByteArray := prog_14_method_83_code
noncomputable def yX12_tried : MethodName := ⟨RX12, "tried", "(II)I"⟩
noncomputable abbrev cX12_orLess : ByteArray := prog_14_method_84_code
noncomputable def yX12_orLess : MethodName := ⟨RX12, "orLess", "(I)I"⟩
noncomputable abbrev cX12_gustIs : ByteArray := prog_14_method_85_code
noncomputable def yX12_gustIs : MethodName := ⟨RX12, "gustIs", "(II)I"⟩
noncomputable abbrev cX12_setIn : ByteArray := prog_14_method_86_code
noncomputable def yX12_setIn : MethodName := ⟨RX12, "setIn", "(I)I"⟩
noncomputable abbrev cX12_brokenIn : ByteArray := prog_14_method_87_code
noncomputable def yX12_brokenIn : MethodName := ⟨RX12, "brokenIn", "(I)I"⟩
noncomputable abbrev cX12_wardIs : ByteArray := prog_14_method_88_code
noncomputable def yX12_wardIs : MethodName := ⟨RX12, "wardIs", "(II)I"⟩
noncomputable abbrev cX12_nurseIs : ByteArray := prog_14_method_89_code
noncomputable def yX12_nurseIs : MethodName := ⟨RX12, "nurseIs", "(II)I"⟩
noncomputable abbrev cX12_quarrel : ByteArray := prog_14_method_90_code
noncomputable def yX12_quarrel : MethodName := ⟨RX12, "quarrel", "(II)I"⟩
noncomputable abbrev cX12_toldGusts : ByteArray := prog_14_method_91_code
noncomputable def yX12_toldGusts : MethodName := ⟨RX12, "toldGusts", "()I"⟩
noncomputable abbrev cX12_areGusts : ByteArray := prog_14_method_92_code
noncomputable def yX12_areGusts : MethodName := ⟨RX12, "areGusts", "(III)Z"⟩
noncomputable abbrev cX12_takesSome : ByteArray := prog_14_method_93_code
noncomputable def yX12_takesSome : MethodName := ⟨RX12, "takesSome", "(I)I"⟩
noncomputable abbrev cX12_placeIn : ByteArray := prog_14_method_94_code
noncomputable def yX12_placeIn : MethodName := ⟨RX12, "placeIn", "(II)I"⟩
noncomputable abbrev cX12_powerOf : ByteArray := prog_14_method_95_code
noncomputable def yX12_powerOf : MethodName := ⟨RX12, "powerOf", "(II)I"⟩
noncomputable abbrev cX12_opensRow : ByteArray := prog_14_method_96_code
noncomputable def yX12_opensRow : MethodName := ⟨RX12, "opensRow", "(III)V"⟩
noncomputable abbrev cX12_keepsRow : ByteArray := prog_14_method_97_code
noncomputable def yX12_keepsRow : MethodName := ⟨RX12, "keepsRow", "(I)V"⟩
noncomputable abbrev cX12_takesPlaces : ByteArray := prog_14_method_98_code
noncomputable def yX12_takesPlaces : MethodName := ⟨RX12, "takesPlaces", "(I)I"⟩
noncomputable abbrev cX12_isRoomFor : ByteArray := prog_14_method_99_code
noncomputable def yX12_isRoomFor : MethodName := ⟨RX12, "isRoomFor", "(II)Z"⟩
noncomputable abbrev cX12_twosIn : ByteArray := prog_14_method_100_code
noncomputable def yX12_twosIn : MethodName := ⟨RX12, "twosIn", "(I)I"⟩
noncomputable abbrev cX12_housed : ByteArray := prog_14_method_101_code
noncomputable def yX12_housed : MethodName := ⟨RX12, "housed", "(III)I"⟩
noncomputable abbrev cX12_wind : ByteArray := prog_14_method_102_code
noncomputable def yX12_wind : MethodName := ⟨RX12, "wind", "(III)Z"⟩
noncomputable abbrev cX12_canGo : ByteArray := prog_14_method_103_code
noncomputable def yX12_canGo : MethodName := ⟨RX12, "canGo", "(II)Z"⟩
noncomputable abbrev cX12_canLeave : ByteArray := prog_14_method_104_code
noncomputable def yX12_canLeave : MethodName := ⟨RX12, "canLeave", "(I)Z"⟩
noncomputable abbrev cX12_laysLeaving : ByteArray := prog_14_method_105_code
noncomputable def yX12_laysLeaving : MethodName := ⟨RX12, "laysLeaving", "(I)V"⟩
noncomputable abbrev cX12_leaving : ByteArray := prog_14_method_106_code
noncomputable def yX12_leaving : MethodName := ⟨RX12, "leaving", "(II)I"⟩
noncomputable abbrev cX12_letGo : ByteArray := prog_14_method_107_code
noncomputable def yX12_letGo : MethodName := ⟨RX12, "letGo", "(I)I"⟩
noncomputable abbrev cX12_home : ByteArray := prog_14_method_108_code
noncomputable def yX12_home : MethodName := ⟨RX12, "home", "(II)Z"⟩
noncomputable abbrev cX12_homesFor : ByteArray := prog_14_method_109_code
noncomputable def yX12_homesFor : MethodName := ⟨RX12, "homesFor", "(II)I"⟩
noncomputable abbrev cX12_greaterPart : ByteArray := prog_14_method_110_code
noncomputable def yX12_greaterPart : MethodName := ⟨RX12, "greaterPart", "(II)I"⟩
noncomputable abbrev cX12_from : ByteArray := prog_14_method_111_code
noncomputable def yX12_from : MethodName := ⟨RX12, "from", "(III)I"⟩
noncomputable abbrev cX12_laysLessons : ByteArray := prog_14_method_112_code
noncomputable def yX12_laysLessons : MethodName := ⟨RX12, "laysLessons", "(II)Z"⟩
noncomputable abbrev cX12_taught : ByteArray := prog_14_method_113_code
noncomputable def yX12_taught : MethodName := ⟨RX12, "taught", "(III)I"⟩
noncomputable abbrev cX12_house : ByteArray := prog_14_method_114_code
noncomputable def yX12_house : MethodName := ⟨RX12, "house", "(III)Z"⟩
noncomputable abbrev cX12_isHigher : ByteArray := prog_14_method_115_code
noncomputable def yX12_isHigher : MethodName := ⟨RX12, "isHigher", "(II)Z"⟩
noncomputable abbrev cX12_isLiked : ByteArray := prog_14_method_116_code
noncomputable def yX12_isLiked : MethodName := ⟨RX12, "isLiked", "(III)Z"⟩
noncomputable abbrev cX12_asksNext : ByteArray := prog_14_method_117_code
noncomputable def yX12_asksNext : MethodName := ⟨RX12, "asksNext", "(I)I"⟩
noncomputable abbrev cX12_isAnywhere : ByteArray := prog_14_method_118_code
noncomputable def yX12_isAnywhere : MethodName := ⟨RX12, "isAnywhere", "(I)Z"⟩
noncomputable abbrev cX12_laysPlaces : ByteArray := prog_14_method_119_code
noncomputable def yX12_laysPlaces : MethodName := ⟨RX12, "laysPlaces", "(I)V"⟩
noncomputable abbrev cX12_placed : ByteArray := prog_14_method_120_code
noncomputable def yX12_placed : MethodName := ⟨RX12, "placed", "(II)I"⟩
noncomputable abbrev cX12_fair : ByteArray := prog_14_method_121_code
noncomputable def yX12_fair : MethodName := ⟨RX12, "fair", "(I)I"⟩
noncomputable abbrev cX12_lower : ByteArray := prog_14_method_122_code
noncomputable def yX12_lower : MethodName := ⟨RX12, "lower", "(II)I"⟩
noncomputable abbrev cX12_higher : ByteArray := prog_14_method_123_code
noncomputable def yX12_higher : MethodName := ⟨RX12, "higher", "(II)I"⟩
noncomputable abbrev cX12_hourOf : ByteArray := prog_14_method_124_code
noncomputable def yX12_hourOf : MethodName := ⟨RX12, "hourOf", "(I)I"⟩
noncomputable abbrev cX12_laysAhead : ByteArray := prog_14_method_125_code
noncomputable def yX12_laysAhead : MethodName := ⟨RX12, "laysAhead", "(II)Z"⟩
noncomputable abbrev cX12_laysBehind : ByteArray := prog_14_method_126_code
noncomputable def yX12_laysBehind : MethodName := ⟨RX12, "laysBehind", "(II)V"⟩
noncomputable abbrev cX12_escaped : ByteArray := prog_14_method_127_code
noncomputable def yX12_escaped : MethodName := ⟨RX12, "escaped", "(IIII)I"⟩
noncomputable abbrev cX12_isOrder : ByteArray := prog_14_method_128_code
noncomputable def yX12_isOrder : MethodName := ⟨RX12, "isOrder", "(I)Z"⟩
noncomputable abbrev cX12_toldNurses : ByteArray := prog_14_method_129_code
noncomputable def yX12_toldNurses : MethodName := ⟨RX12, "toldNurses", "()I"⟩
noncomputable abbrev cX12_nursed : ByteArray := prog_14_method_130_code
noncomputable def yX12_nursed : MethodName := ⟨RX12, "nursed", "(III)I"⟩
noncomputable abbrev cX12_laysRing : ByteArray := prog_14_method_131_code
noncomputable def yX12_laysRing : MethodName := ⟨RX12, "laysRing", "(I)V"⟩
noncomputable abbrev cX12_round : ByteArray := prog_14_method_132_code
noncomputable def yX12_round : MethodName := ⟨RX12, "round", "(II)I"⟩
noncomputable abbrev cX12_partOf : ByteArray := prog_14_method_133_code
noncomputable def yX12_partOf : MethodName := ⟨RX12, "partOf", "(II)I"⟩
noncomputable abbrev cX12_added : ByteArray := prog_14_method_134_code
noncomputable def yX12_added : MethodName := ⟨RX12, "added", "(II)I"⟩
noncomputable abbrev cX12_seed : ByteArray := prog_14_method_135_code
noncomputable def yX12_seed : MethodName := ⟨RX12, "seed", "(I)Z"⟩
noncomputable abbrev cX12_keep : ByteArray := prog_14_method_136_code
noncomputable def yX12_keep : MethodName := ⟨RX12, "keep", "()I"⟩
noncomputable abbrev cX12_undo : ByteArray := prog_14_method_137_code
noncomputable def yX12_undo : MethodName := ⟨RX12, "undo", "()Z"⟩
noncomputable abbrev cX12_check : ByteArray := prog_14_method_138_code
noncomputable def yX12_check : MethodName := ⟨RX12, "check", "(I)I"⟩
noncomputable abbrev cX12_toldOf : ByteArray := prog_14_method_139_code
noncomputable def yX12_toldOf : MethodName := ⟨RX12, "toldOf", "(I)I"⟩
noncomputable abbrev cX12_count : ByteArray := prog_14_method_140_code
noncomputable def yX12_count : MethodName := ⟨RX12, "count", "(I)I"⟩
noncomputable def RJ6 : String := "java/lang/Integer"
noncomputable abbrev cJ6_bitCount_0f7a4 : ByteArray := prog_16_method_49_code
noncomputable def yJ6_bitCount_0f7a4 : MethodName := ⟨RJ6, "bitCount", "(I)I"⟩
noncomputable def RJ9 : String := "java/lang/Math"
noncomputable def RJ0 : String := "java/lang/String"
noncomputable abbrev cJ0_length_8abf5 : ByteArray := prog_18_method_54_code
noncomputable def yJ0_length_8abf5 : MethodName := ⟨RJ0, "length", "()I"⟩
noncomputable abbrev cJ0_indexOf_0f7a4 : ByteArray := prog_18_method_79_code
noncomputable def yJ0_indexOf_0f7a4 : MethodName := ⟨RJ0, "indexOf", "(I)I"⟩
noncomputable abbrev cJ0_indexOf_7cf53 : ByteArray := prog_18_method_80_code
noncomputable def yJ0_indexOf_7cf53 : MethodName := ⟨RJ0, "indexOf", "(II)I"⟩
noncomputable abbrev cJ0_coder_7d493 : ByteArray := prog_18_method_152_code
noncomputable def yJ0_coder_7d493 : MethodName := ⟨RJ0, "coder", "()B"⟩
noncomputable abbrev cJ0_isLatin1_aae02 : ByteArray := prog_18_method_154_code
noncomputable def yJ0_isLatin1_aae02 : MethodName := ⟨RJ0, "isLatin1", "()Z"⟩
noncomputable def RJ1 : String := "java/lang/StringLatin1"
noncomputable abbrev cJ1_canEncode_9a6ad : ByteArray := prog_19_method_4_code
noncomputable def yJ1_canEncode_9a6ad : MethodName := ⟨RJ1, "canEncode", "(I)Z"⟩
noncomputable abbrev cJ1_indexOf_4cfef : ByteArray := prog_19_method_22_code
noncomputable def yJ1_indexOf_4cfef : MethodName := ⟨RJ1, "indexOf", "([BIII)I"⟩
noncomputable abbrev cJ1_indexOfChar_4cfef : ByteArray := prog_19_method_23_code
noncomputable def yJ1_indexOfChar_4cfef : MethodName := ⟨RJ1, "indexOfChar", "([BIII)I"⟩
noncomputable def RJ7 : String := "java/util/Arrays"
noncomputable abbrev cJ7_fill_53178 : ByteArray := prog_22_method_103_code
noncomputable def yJ7_fill_53178 : MethodName := ⟨RJ7, "fill", "([II)V"⟩
noncomputable def RL : String := "GustHomeLaw"
noncomputable abbrev vwCl : List vw_C := [(RX0, TX0, 8), (RX1, TX1, 8), (RX2, TX2, 5), (RX3, TX3, 4), (RX4, TX4, 14), (RX5, TX5, 7), (RX6, TX6, 2), (RX7, TX7, 15), (RX8, TX8, 2), (RX9, TX9, 5), (RX10, TX10, 11), (RX11, TX11, 15), (RX12, TX12, 119)]
noncomputable def g_ty (ci : Nat) : Nat → FieldType := match ci with
  | 0 => tyX0
  | 1 => tyX1
  | 2 => tyX2
  | 3 => tyX3
  | 4 => tyX4
  | 5 => tyX5
  | 6 => tyX6
  | 7 => tyX7
  | 8 => tyX8
  | 9 => tyX9
  | 10 => tyX10
  | 11 => tyX11
  | _ => tyX12
noncomputable def g_nf (ci : Nat) : Nat := match ci with
  | 0 => 8
  | 1 => 8
  | 2 => 5
  | 3 => 4
  | 4 => 14
  | 5 => 7
  | 6 => 2
  | 7 => 15
  | 8 => 2
  | 9 => 5
  | 10 => 11
  | 11 => 15
  | _ => 119
noncomputable def g_df (ci : Nat) : List Value := (List.range (g_nf ci)).map (fun j => defaultValue (g_ty ci j))
end Prt02
