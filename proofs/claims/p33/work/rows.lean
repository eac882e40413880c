section
-- ===== PART A: goes FIRST, ahead of the names: the tables' words, and 'selects' of the private methods out of them =====
/-- a private method of a class that the tables say can be made, by its rows of tables_1 -/
def lw_okq (q : MethodName × Nat) : Prop := (q.1.cls ≠ "java/lang/invoke/MethodHandle" ∧ q.1.cls ≠ "java/lang/invoke/VarHandle") ∧ Cond.instantiable q.1.cls q.2 ∈ tables_1 ∧ Cond.privateMethod q.1 ∈ tables_1 ∧ Cond.instanceMethod q.1 ∈ tables_1
theorem lw_p0 : lw_okq (⟨"GustHome", "wardAt", "(I)LGustHome$Ward;"⟩, 15) := ⟨⟨by decide +kernel, by decide +kernel⟩, List.mem_of_getElem? (i := 24) (by decide +kernel), List.mem_of_getElem? (i := 493) (by decide +kernel), List.mem_of_getElem? (i := 494) (by decide +kernel)⟩
theorem lw_p1 : lw_okq (⟨"GustHome$Reader", "begin", "(I)V"⟩, 7) := ⟨⟨by decide +kernel, by decide +kernel⟩, List.mem_of_getElem? (i := 240) (by decide +kernel), List.mem_of_getElem? (i := 561) (by decide +kernel), List.mem_of_getElem? (i := 562) (by decide +kernel)⟩
theorem lw_p2 : lw_okq (⟨"GustHome$Reader", "readClause", "()V"⟩, 7) := ⟨⟨by decide +kernel, by decide +kernel⟩, List.mem_of_getElem? (i := 240) (by decide +kernel), List.mem_of_getElem? (i := 569) (by decide +kernel), List.mem_of_getElem? (i := 570) (by decide +kernel)⟩
theorem lw_p3 : lw_okq (⟨"GustHome$Reader", "here", "()I"⟩, 7) := ⟨⟨by decide +kernel, by decide +kernel⟩, List.mem_of_getElem? (i := 240) (by decide +kernel), List.mem_of_getElem? (i := 573) (by decide +kernel), List.mem_of_getElem? (i := 574) (by decide +kernel)⟩
theorem lw_p4 : lw_okq (⟨"GustHome$Reader", "fail", "(II)V"⟩, 7) := ⟨⟨by decide +kernel, by decide +kernel⟩, List.mem_of_getElem? (i := 240) (by decide +kernel), List.mem_of_getElem? (i := 581) (by decide +kernel), List.mem_of_getElem? (i := 582) (by decide +kernel)⟩
theorem lw_p5 : lw_okq (⟨"GustHome$Reader", "readSum", "(I)V"⟩, 7) := ⟨⟨by decide +kernel, by decide +kernel⟩, List.mem_of_getElem? (i := 240) (by decide +kernel), List.mem_of_getElem? (i := 589) (by decide +kernel), List.mem_of_getElem? (i := 590) (by decide +kernel)⟩
theorem lw_p6 : lw_okq (⟨"GustHome$Reader", "readTerm", "(I)V"⟩, 7) := ⟨⟨by decide +kernel, by decide +kernel⟩, List.mem_of_getElem? (i := 240) (by decide +kernel), List.mem_of_getElem? (i := 593) (by decide +kernel), List.mem_of_getElem? (i := 594) (by decide +kernel)⟩
theorem lw_p7 : lw_okq (⟨"GustHome$Reader", "readFactor", "(I)V"⟩, 7) := ⟨⟨by decide +kernel, by decide +kernel⟩, List.mem_of_getElem? (i := 240) (by decide +kernel), List.mem_of_getElem? (i := 597) (by decide +kernel), List.mem_of_getElem? (i := 598) (by decide +kernel)⟩
theorem lw_p8 : lw_okq (⟨"GustHome$Reader", "opens", "(I)Z"⟩, 7) := ⟨⟨by decide +kernel, by decide +kernel⟩, List.mem_of_getElem? (i := 240) (by decide +kernel), List.mem_of_getElem? (i := 688) (by decide +kernel), List.mem_of_getElem? (i := 689) (by decide +kernel)⟩
theorem lw_p9 : lw_okq (⟨"GustHome$Reader", "expect", "(I)V"⟩, 7) := ⟨⟨by decide +kernel, by decide +kernel⟩, List.mem_of_getElem? (i := 240) (by decide +kernel), List.mem_of_getElem? (i := 692) (by decide +kernel), List.mem_of_getElem? (i := 693) (by decide +kernel)⟩
theorem lw_p10 : lw_okq (⟨"GustHome$Reader", "readNumber", "()V"⟩, 7) := ⟨⟨by decide +kernel, by decide +kernel⟩, List.mem_of_getElem? (i := 240) (by decide +kernel), List.mem_of_getElem? (i := 696) (by decide +kernel), List.mem_of_getElem? (i := 697) (by decide +kernel)⟩
theorem lw_p11 : lw_okq (⟨"GustHome$Reader", "readWhole", "()V"⟩, 7) := ⟨⟨by decide +kernel, by decide +kernel⟩, List.mem_of_getElem? (i := 240) (by decide +kernel), List.mem_of_getElem? (i := 704) (by decide +kernel), List.mem_of_getElem? (i := 705) (by decide +kernel)⟩
theorem lw_p12 : lw_okq (⟨"GustHome$Reader", "readBracket", "(I)V"⟩, 7) := ⟨⟨by decide +kernel, by decide +kernel⟩, List.mem_of_getElem? (i := 240) (by decide +kernel), List.mem_of_getElem? (i := 712) (by decide +kernel), List.mem_of_getElem? (i := 713) (by decide +kernel)⟩
theorem lw_p13 : lw_okq (⟨"GustHome$Reader", "readCondition", "(I)V"⟩, 7) := ⟨⟨by decide +kernel, by decide +kernel⟩, List.mem_of_getElem? (i := 240) (by decide +kernel), List.mem_of_getElem? (i := 716) (by decide +kernel), List.mem_of_getElem? (i := 717) (by decide +kernel)⟩
theorem lw_p14 : lw_okq (⟨"GustHome$Reader", "readPart", "(I)V"⟩, 7) := ⟨⟨by decide +kernel, by decide +kernel⟩, List.mem_of_getElem? (i := 240) (by decide +kernel), List.mem_of_getElem? (i := 720) (by decide +kernel), List.mem_of_getElem? (i := 721) (by decide +kernel)⟩
theorem lw_p15 : lw_okq (⟨"GustHome$Reader", "readTest", "(I)V"⟩, 7) := ⟨⟨by decide +kernel, by decide +kernel⟩, List.mem_of_getElem? (i := 240) (by decide +kernel), List.mem_of_getElem? (i := 724) (by decide +kernel), List.mem_of_getElem? (i := 725) (by decide +kernel)⟩
def lw_privs_1 : List (MethodName × Nat) := [(⟨"GustHome", "wardAt", "(I)LGustHome$Ward;"⟩, 15), (⟨"GustHome$Reader", "begin", "(I)V"⟩, 7), (⟨"GustHome$Reader", "readClause", "()V"⟩, 7), (⟨"GustHome$Reader", "here", "()I"⟩, 7), (⟨"GustHome$Reader", "fail", "(II)V"⟩, 7), (⟨"GustHome$Reader", "readSum", "(I)V"⟩, 7), (⟨"GustHome$Reader", "readTerm", "(I)V"⟩, 7), (⟨"GustHome$Reader", "readFactor", "(I)V"⟩, 7), (⟨"GustHome$Reader", "opens", "(I)Z"⟩, 7), (⟨"GustHome$Reader", "expect", "(I)V"⟩, 7), (⟨"GustHome$Reader", "readNumber", "()V"⟩, 7), (⟨"GustHome$Reader", "readWhole", "()V"⟩, 7), (⟨"GustHome$Reader", "readBracket", "(I)V"⟩, 7), (⟨"GustHome$Reader", "readCondition", "(I)V"⟩, 7), (⟨"GustHome$Reader", "readPart", "(I)V"⟩, 7), (⟨"GustHome$Reader", "readTest", "(I)V"⟩, 7)]
theorem lw_r1 : ∀ q ∈ lw_privs_1, lw_okq q := List.forall_mem_cons.mpr ⟨lw_p0, List.forall_mem_cons.mpr ⟨lw_p1, List.forall_mem_cons.mpr ⟨lw_p2, List.forall_mem_cons.mpr ⟨lw_p3, List.forall_mem_cons.mpr ⟨lw_p4, List.forall_mem_cons.mpr ⟨lw_p5, List.forall_mem_cons.mpr ⟨lw_p6, List.forall_mem_cons.mpr ⟨lw_p7, List.forall_mem_cons.mpr ⟨lw_p8, List.forall_mem_cons.mpr ⟨lw_p9, List.forall_mem_cons.mpr ⟨lw_p10, List.forall_mem_cons.mpr ⟨lw_p11, List.forall_mem_cons.mpr ⟨lw_p12, List.forall_mem_cons.mpr ⟨lw_p13, List.forall_mem_cons.mpr ⟨lw_p14, List.forall_mem_cons.mpr ⟨lw_p15, fun _ h => absurd h List.not_mem_nil⟩⟩⟩⟩⟩⟩⟩⟩⟩⟩⟩⟩⟩⟩⟩⟩
theorem lw_p16 : lw_okq (⟨"GustHome$Reader", "readRule", "()V"⟩, 7) := ⟨⟨by decide +kernel, by decide +kernel⟩, List.mem_of_getElem? (i := 240) (by decide +kernel), List.mem_of_getElem? (i := 736) (by decide +kernel), List.mem_of_getElem? (i := 737) (by decide +kernel)⟩
theorem lw_p17 : lw_okq (⟨"GustHome$Reader", "readMonths", "(I)V"⟩, 7) := ⟨⟨by decide +kernel, by decide +kernel⟩, List.mem_of_getElem? (i := 240) (by decide +kernel), List.mem_of_getElem? (i := 765) (by decide +kernel), List.mem_of_getElem? (i := 766) (by decide +kernel)⟩
theorem lw_p18 : lw_okq (⟨"GustHome$Reader", "readMonth", "(I)V"⟩, 7) := ⟨⟨by decide +kernel, by decide +kernel⟩, List.mem_of_getElem? (i := 240) (by decide +kernel), List.mem_of_getElem? (i := 769) (by decide +kernel), List.mem_of_getElem? (i := 770) (by decide +kernel)⟩
theorem lw_p19 : lw_okq (⟨"GustHome$Reader", "readGroup", "(I)V"⟩, 7) := ⟨⟨by decide +kernel, by decide +kernel⟩, List.mem_of_getElem? (i := 240) (by decide +kernel), List.mem_of_getElem? (i := 773) (by decide +kernel), List.mem_of_getElem? (i := 774) (by decide +kernel)⟩
theorem lw_p20 : lw_okq (⟨"GustHome$Reader", "writeMonth", "(I)V"⟩, 7) := ⟨⟨by decide +kernel, by decide +kernel⟩, List.mem_of_getElem? (i := 240) (by decide +kernel), List.mem_of_getElem? (i := 777) (by decide +kernel), List.mem_of_getElem? (i := 778) (by decide +kernel)⟩
theorem lw_p21 : lw_okq (⟨"GustHome$Reader", "repeat", "(III)V"⟩, 7) := ⟨⟨by decide +kernel, by decide +kernel⟩, List.mem_of_getElem? (i := 240) (by decide +kernel), List.mem_of_getElem? (i := 781) (by decide +kernel), List.mem_of_getElem? (i := 782) (by decide +kernel)⟩
theorem lw_p22 : lw_okq (⟨"GustHome$Calendar", "pass", "(LGustHome$State;)V"⟩, 8) := ⟨⟨by decide +kernel, by decide +kernel⟩, List.mem_of_getElem? (i := 272) (by decide +kernel), List.mem_of_getElem? (i := 802) (by decide +kernel), List.mem_of_getElem? (i := 803) (by decide +kernel)⟩
theorem lw_p23 : lw_okq (⟨"GustHome$Calendar", "weaken", "(LGustHome$State;)V"⟩, 8) := ⟨⟨by decide +kernel, by decide +kernel⟩, List.mem_of_getElem? (i := 272) (by decide +kernel), List.mem_of_getElem? (i := 806) (by decide +kernel), List.mem_of_getElem? (i := 807) (by decide +kernel)⟩
theorem lw_p24 : lw_okq (⟨"GustHome$Judge", "lookAtGust", "(LGustHome$State;I)V"⟩, 4) := ⟨⟨by decide +kernel, by decide +kernel⟩, List.mem_of_getElem? (i := 185) (by decide +kernel), List.mem_of_getElem? (i := 815) (by decide +kernel), List.mem_of_getElem? (i := 816) (by decide +kernel)⟩
theorem lw_p25 : lw_okq (⟨"GustHome$Judge", "firstAmount", "(II)I"⟩, 4) := ⟨⟨by decide +kernel, by decide +kernel⟩, List.mem_of_getElem? (i := 185) (by decide +kernel), List.mem_of_getElem? (i := 824) (by decide +kernel), List.mem_of_getElem? (i := 825) (by decide +kernel)⟩
theorem lw_p26 : lw_okq (⟨"GustHome$Calendar", "strengthen", "(LGustHome$State;II)V"⟩, 8) := ⟨⟨by decide +kernel, by decide +kernel⟩, List.mem_of_getElem? (i := 272) (by decide +kernel), List.mem_of_getElem? (i := 857) (by decide +kernel), List.mem_of_getElem? (i := 858) (by decide +kernel)⟩
theorem lw_p27 : lw_okq (⟨"GustHome$Calendar", "teach", "(LGustHome$State;II)V"⟩, 8) := ⟨⟨by decide +kernel, by decide +kernel⟩, List.mem_of_getElem? (i := 272) (by decide +kernel), List.mem_of_getElem? (i := 862) (by decide +kernel), List.mem_of_getElem? (i := 863) (by decide +kernel)⟩
theorem lw_p28 : lw_okq (⟨"GustHome$Judge", "anyHolds", "(I)Z"⟩, 4) := ⟨⟨by decide +kernel, by decide +kernel⟩, List.mem_of_getElem? (i := 185) (by decide +kernel), List.mem_of_getElem? (i := 873) (by decide +kernel), List.mem_of_getElem? (i := 874) (by decide +kernel)⟩
theorem lw_p29 : lw_okq (⟨"GustHome$Calendar", "breakToys", "(LGustHome$State;)V"⟩, 8) := ⟨⟨by decide +kernel, by decide +kernel⟩, List.mem_of_getElem? (i := 272) (by decide +kernel), List.mem_of_getElem? (i := 877) (by decide +kernel), List.mem_of_getElem? (i := 878) (by decide +kernel)⟩
theorem lw_p30 : lw_okq (⟨"GustHome$Calendar", "quarrelAll", "(LGustHome$State;)V"⟩, 8) := ⟨⟨by decide +kernel, by decide +kernel⟩, List.mem_of_getElem? (i := 272) (by decide +kernel), List.mem_of_getElem? (i := 881) (by decide +kernel), List.mem_of_getElem? (i := 882) (by decide +kernel)⟩
theorem lw_p31 : lw_okq (⟨"GustHome$Judge", "lookAtTwo", "(LGustHome$State;II)V"⟩, 4) := ⟨⟨by decide +kernel, by decide +kernel⟩, List.mem_of_getElem? (i := 185) (by decide +kernel), List.mem_of_getElem? (i := 889) (by decide +kernel), List.mem_of_getElem? (i := 890) (by decide +kernel)⟩
def lw_privs_2 : List (MethodName × Nat) := [(⟨"GustHome$Reader", "readRule", "()V"⟩, 7), (⟨"GustHome$Reader", "readMonths", "(I)V"⟩, 7), (⟨"GustHome$Reader", "readMonth", "(I)V"⟩, 7), (⟨"GustHome$Reader", "readGroup", "(I)V"⟩, 7), (⟨"GustHome$Reader", "writeMonth", "(I)V"⟩, 7), (⟨"GustHome$Reader", "repeat", "(III)V"⟩, 7), (⟨"GustHome$Calendar", "pass", "(LGustHome$State;)V"⟩, 8), (⟨"GustHome$Calendar", "weaken", "(LGustHome$State;)V"⟩, 8), (⟨"GustHome$Judge", "lookAtGust", "(LGustHome$State;I)V"⟩, 4), (⟨"GustHome$Judge", "firstAmount", "(II)I"⟩, 4), (⟨"GustHome$Calendar", "strengthen", "(LGustHome$State;II)V"⟩, 8), (⟨"GustHome$Calendar", "teach", "(LGustHome$State;II)V"⟩, 8), (⟨"GustHome$Judge", "anyHolds", "(I)Z"⟩, 4), (⟨"GustHome$Calendar", "breakToys", "(LGustHome$State;)V"⟩, 8), (⟨"GustHome$Calendar", "quarrelAll", "(LGustHome$State;)V"⟩, 8), (⟨"GustHome$Judge", "lookAtTwo", "(LGustHome$State;II)V"⟩, 4)]
theorem lw_r2 : ∀ q ∈ lw_privs_2, lw_okq q := List.forall_mem_cons.mpr ⟨lw_p16, List.forall_mem_cons.mpr ⟨lw_p17, List.forall_mem_cons.mpr ⟨lw_p18, List.forall_mem_cons.mpr ⟨lw_p19, List.forall_mem_cons.mpr ⟨lw_p20, List.forall_mem_cons.mpr ⟨lw_p21, List.forall_mem_cons.mpr ⟨lw_p22, List.forall_mem_cons.mpr ⟨lw_p23, List.forall_mem_cons.mpr ⟨lw_p24, List.forall_mem_cons.mpr ⟨lw_p25, List.forall_mem_cons.mpr ⟨lw_p26, List.forall_mem_cons.mpr ⟨lw_p27, List.forall_mem_cons.mpr ⟨lw_p28, List.forall_mem_cons.mpr ⟨lw_p29, List.forall_mem_cons.mpr ⟨lw_p30, List.forall_mem_cons.mpr ⟨lw_p31, fun _ h => absurd h List.not_mem_nil⟩⟩⟩⟩⟩⟩⟩⟩⟩⟩⟩⟩⟩⟩⟩⟩
theorem lw_p32 : lw_okq (⟨"GustHome$Calendar", "recover", "(LGustHome$State;)V"⟩, 8) := ⟨⟨by decide +kernel, by decide +kernel⟩, List.mem_of_getElem? (i := 272) (by decide +kernel), List.mem_of_getElem? (i := 893) (by decide +kernel), List.mem_of_getElem? (i := 894) (by decide +kernel)⟩
theorem lw_p33 : lw_okq (⟨"GustHome$Calendar", "sicken", "(LGustHome$State;II)V"⟩, 8) := ⟨⟨by decide +kernel, by decide +kernel⟩, List.mem_of_getElem? (i := 272) (by decide +kernel), List.mem_of_getElem? (i := 897) (by decide +kernel), List.mem_of_getElem? (i := 898) (by decide +kernel)⟩
theorem lw_p34 : lw_okq (⟨"GustHome$Judge", "lookAtWard", "(LGustHome$State;I)V"⟩, 4) := ⟨⟨by decide +kernel, by decide +kernel⟩, List.mem_of_getElem? (i := 185) (by decide +kernel), List.mem_of_getElem? (i := 911) (by decide +kernel), List.mem_of_getElem? (i := 912) (by decide +kernel)⟩
theorem lw_p35 : lw_okq (⟨"GustHome$Calendar", "askRules", "(LGustHome$State;)V"⟩, 8) := ⟨⟨by decide +kernel, by decide +kernel⟩, List.mem_of_getElem? (i := 272) (by decide +kernel), List.mem_of_getElem? (i := 918) (by decide +kernel), List.mem_of_getElem? (i := 919) (by decide +kernel)⟩
theorem lw_p36 : lw_okq (⟨"GustHome", "chosen", "(III)Z"⟩, 15) := ⟨⟨by decide +kernel, by decide +kernel⟩, List.mem_of_getElem? (i := 24) (by decide +kernel), List.mem_of_getElem? (i := 978) (by decide +kernel), List.mem_of_getElem? (i := 979) (by decide +kernel)⟩
theorem lw_p37 : lw_okq (⟨"GustHome$Planner", "learnOdds", "(LGustHome$State;)V"⟩, 14) := ⟨⟨by decide +kernel, by decide +kernel⟩, List.mem_of_getElem? (i := 308) (by decide +kernel), List.mem_of_getElem? (i := 991) (by decide +kernel), List.mem_of_getElem? (i := 992) (by decide +kernel)⟩
theorem lw_p38 : lw_okq (⟨"GustHome$Planner", "lodgeFrom", "(II)V"⟩, 14) := ⟨⟨by decide +kernel, by decide +kernel⟩, List.mem_of_getElem? (i := 308) (by decide +kernel), List.mem_of_getElem? (i := 997) (by decide +kernel), List.mem_of_getElem? (i := 998) (by decide +kernel)⟩
theorem lw_p39 : lw_okq (⟨"GustHome$Planner", "keepRow", "(I)V"⟩, 14) := ⟨⟨by decide +kernel, by decide +kernel⟩, List.mem_of_getElem? (i := 308) (by decide +kernel), List.mem_of_getElem? (i := 1001) (by decide +kernel), List.mem_of_getElem? (i := 1002) (by decide +kernel)⟩
theorem lw_p40 : lw_okq (⟨"GustHome$Winds", "sendFrom", "(LGustHome$State;III)V"⟩, 11) := ⟨⟨by decide +kernel, by decide +kernel⟩, List.mem_of_getElem? (i := 358) (by decide +kernel), List.mem_of_getElem? (i := 1024) (by decide +kernel), List.mem_of_getElem? (i := 1025) (by decide +kernel)⟩
theorem lw_p41 : lw_okq (⟨"GustHome$Winds", "mayBeat", "(II)Z"⟩, 11) := ⟨⟨by decide +kernel, by decide +kernel⟩, List.mem_of_getElem? (i := 358) (by decide +kernel), List.mem_of_getElem? (i := 1028) (by decide +kernel), List.mem_of_getElem? (i := 1029) (by decide +kernel)⟩
theorem lw_p42 : lw_okq (⟨"GustHome$Winds", "windOfGale", "(LGustHome$State;I)I"⟩, 11) := ⟨⟨by decide +kernel, by decide +kernel⟩, List.mem_of_getElem? (i := 358) (by decide +kernel), List.mem_of_getElem? (i := 1033) (by decide +kernel), List.mem_of_getElem? (i := 1034) (by decide +kernel)⟩
theorem lw_p43 : lw_okq (⟨"GustHome$Winds", "carries", "(LGustHome$State;II)Z"⟩, 11) := ⟨⟨by decide +kernel, by decide +kernel⟩, List.mem_of_getElem? (i := 358) (by decide +kernel), List.mem_of_getElem? (i := 1037) (by decide +kernel), List.mem_of_getElem? (i := 1038) (by decide +kernel)⟩
theorem lw_p44 : lw_okq (⟨"GustHome", "homesLike", "(II)I"⟩, 15) := ⟨⟨by decide +kernel, by decide +kernel⟩, List.mem_of_getElem? (i := 24) (by decide +kernel), List.mem_of_getElem? (i := 1055) (by decide +kernel), List.mem_of_getElem? (i := 1056) (by decide +kernel)⟩
theorem lw_p45 : lw_okq (⟨"GustHome", "mostTelling", "(II)I"⟩, 15) := ⟨⟨by decide +kernel, by decide +kernel⟩, List.mem_of_getElem? (i := 24) (by decide +kernel), List.mem_of_getElem? (i := 1059) (by decide +kernel), List.mem_of_getElem? (i := 1060) (by decide +kernel)⟩
theorem lw_p46 : lw_okq (⟨"GustHome", "homesWith", "(II)I"⟩, 15) := ⟨⟨by decide +kernel, by decide +kernel⟩, List.mem_of_getElem? (i := 24) (by decide +kernel), List.mem_of_getElem? (i := 1063) (by decide +kernel), List.mem_of_getElem? (i := 1064) (by decide +kernel)⟩
theorem lw_p47 : lw_okq (⟨"GustHome$School", "withNeeds", "(II)I"⟩, 2) := ⟨⟨by decide +kernel, by decide +kernel⟩, List.mem_of_getElem? (i := 169) (by decide +kernel), List.mem_of_getElem? (i := 1076) (by decide +kernel), List.mem_of_getElem? (i := 1077) (by decide +kernel)⟩
def lw_privs_3 : List (MethodName × Nat) := [(⟨"GustHome$Calendar", "recover", "(LGustHome$State;)V"⟩, 8), (⟨"GustHome$Calendar", "sicken", "(LGustHome$State;II)V"⟩, 8), (⟨"GustHome$Judge", "lookAtWard", "(LGustHome$State;I)V"⟩, 4), (⟨"GustHome$Calendar", "askRules", "(LGustHome$State;)V"⟩, 8), (⟨"GustHome", "chosen", "(III)Z"⟩, 15), (⟨"GustHome$Planner", "learnOdds", "(LGustHome$State;)V"⟩, 14), (⟨"GustHome$Planner", "lodgeFrom", "(II)V"⟩, 14), (⟨"GustHome$Planner", "keepRow", "(I)V"⟩, 14), (⟨"GustHome$Winds", "sendFrom", "(LGustHome$State;III)V"⟩, 11), (⟨"GustHome$Winds", "mayBeat", "(II)Z"⟩, 11), (⟨"GustHome$Winds", "windOfGale", "(LGustHome$State;I)I"⟩, 11), (⟨"GustHome$Winds", "carries", "(LGustHome$State;II)Z"⟩, 11), (⟨"GustHome", "homesLike", "(II)I"⟩, 15), (⟨"GustHome", "mostTelling", "(II)I"⟩, 15), (⟨"GustHome", "homesWith", "(II)I"⟩, 15), (⟨"GustHome$School", "withNeeds", "(II)I"⟩, 2)]
theorem lw_r3 : ∀ q ∈ lw_privs_3, lw_okq q := List.forall_mem_cons.mpr ⟨lw_p32, List.forall_mem_cons.mpr ⟨lw_p33, List.forall_mem_cons.mpr ⟨lw_p34, List.forall_mem_cons.mpr ⟨lw_p35, List.forall_mem_cons.mpr ⟨lw_p36, List.forall_mem_cons.mpr ⟨lw_p37, List.forall_mem_cons.mpr ⟨lw_p38, List.forall_mem_cons.mpr ⟨lw_p39, List.forall_mem_cons.mpr ⟨lw_p40, List.forall_mem_cons.mpr ⟨lw_p41, List.forall_mem_cons.mpr ⟨lw_p42, List.forall_mem_cons.mpr ⟨lw_p43, List.forall_mem_cons.mpr ⟨lw_p44, List.forall_mem_cons.mpr ⟨lw_p45, List.forall_mem_cons.mpr ⟨lw_p46, List.forall_mem_cons.mpr ⟨lw_p47, fun _ h => absurd h List.not_mem_nil⟩⟩⟩⟩⟩⟩⟩⟩⟩⟩⟩⟩⟩⟩⟩⟩
theorem lw_p48 : lw_okq (⟨"GustHome$School", "lowestReady", "(II)I"⟩, 2) := ⟨⟨by decide +kernel, by decide +kernel⟩, List.mem_of_getElem? (i := 169) (by decide +kernel), List.mem_of_getElem? (i := 1082) (by decide +kernel), List.mem_of_getElem? (i := 1083) (by decide +kernel)⟩
theorem lw_p49 : lw_okq (⟨"GustHome$Houses", "highest", "(I)I"⟩, 5) := ⟨⟨by decide +kernel, by decide +kernel⟩, List.mem_of_getElem? (i := 403) (by decide +kernel), List.mem_of_getElem? (i := 1094) (by decide +kernel), List.mem_of_getElem? (i := 1095) (by decide +kernel)⟩
theorem lw_p50 : lw_okq (⟨"GustHome$Houses", "higher", "(II)Z"⟩, 5) := ⟨⟨by decide +kernel, by decide +kernel⟩, List.mem_of_getElem? (i := 403) (by decide +kernel), List.mem_of_getElem? (i := 1099) (by decide +kernel), List.mem_of_getElem? (i := 1100) (by decide +kernel)⟩
theorem lw_p51 : lw_okq (⟨"GustHome$Houses", "dearest", "(LGustHome$State;II)I"⟩, 5) := ⟨⟨by decide +kernel, by decide +kernel⟩, List.mem_of_getElem? (i := 403) (by decide +kernel), List.mem_of_getElem? (i := 1103) (by decide +kernel), List.mem_of_getElem? (i := 1104) (by decide +kernel)⟩
theorem lw_p52 : lw_okq (⟨"GustHome$Houses", "dearer", "(LGustHome$State;III)Z"⟩, 5) := ⟨⟨by decide +kernel, by decide +kernel⟩, List.mem_of_getElem? (i := 403) (by decide +kernel), List.mem_of_getElem? (i := 1107) (by decide +kernel), List.mem_of_getElem? (i := 1108) (by decide +kernel)⟩
theorem lw_p53 : lw_okq (⟨"GustHome", "sought", "(IIII)I"⟩, 15) := ⟨⟨by decide +kernel, by decide +kernel⟩, List.mem_of_getElem? (i := 24) (by decide +kernel), List.mem_of_getElem? (i := 1131) (by decide +kernel), List.mem_of_getElem? (i := 1132) (by decide +kernel)⟩
theorem lw_p54 : lw_okq (⟨"GustHome", "sightingsStand", "(I)Z"⟩, 15) := ⟨⟨by decide +kernel, by decide +kernel⟩, List.mem_of_getElem? (i := 24) (by decide +kernel), List.mem_of_getElem? (i := 1135) (by decide +kernel), List.mem_of_getElem? (i := 1136) (by decide +kernel)⟩
theorem lw_p55 : lw_okq (⟨"GustHome", "sightingsAgree", "(II)Z"⟩, 15) := ⟨⟨by decide +kernel, by decide +kernel⟩, List.mem_of_getElem? (i := 24) (by decide +kernel), List.mem_of_getElem? (i := 1140) (by decide +kernel), List.mem_of_getElem? (i := 1141) (by decide +kernel)⟩
theorem lw_p56 : lw_okq (⟨"GustHome$Planner", "staffFrom", "(III)V"⟩, 14) := ⟨⟨by decide +kernel, by decide +kernel⟩, List.mem_of_getElem? (i := 308) (by decide +kernel), List.mem_of_getElem? (i := 1157) (by decide +kernel), List.mem_of_getElem? (i := 1158) (by decide +kernel)⟩
theorem lw_p57 : lw_okq (⟨"GustHome$Planner", "waysOn", "(III)I"⟩, 14) := ⟨⟨by decide +kernel, by decide +kernel⟩, List.mem_of_getElem? (i := 308) (by decide +kernel), List.mem_of_getElem? (i := 1169) (by decide +kernel), List.mem_of_getElem? (i := 1170) (by decide +kernel)⟩
theorem lw_p58 : lw_okq (⟨"GustHome$Planner", "walkFirst", "()V"⟩, 14) := ⟨⟨by decide +kernel, by decide +kernel⟩, List.mem_of_getElem? (i := 308) (by decide +kernel), List.mem_of_getElem? (i := 1173) (by decide +kernel), List.mem_of_getElem? (i := 1174) (by decide +kernel)⟩
theorem lw_p59 : lw_okq (⟨"GustHome$Planner", "firstOn", "(II)I"⟩, 14) := ⟨⟨by decide +kernel, by decide +kernel⟩, List.mem_of_getElem? (i := 308) (by decide +kernel), List.mem_of_getElem? (i := 1177) (by decide +kernel), List.mem_of_getElem? (i := 1178) (by decide +kernel)⟩
theorem lw_p60 : lw_okq (⟨"GustHomeModel", "push", "(I)V"⟩, 119) := ⟨⟨by decide +kernel, by decide +kernel⟩, List.mem_of_getElem? (i := 1197) (by decide +kernel), List.mem_of_getElem? (i := 1566) (by decide +kernel), List.mem_of_getElem? (i := 1567) (by decide +kernel)⟩
theorem lw_p61 : lw_okq (⟨"GustHomeModel", "takesText", "(IZ)I"⟩, 119) := ⟨⟨by decide +kernel, by decide +kernel⟩, List.mem_of_getElem? (i := 1197) (by decide +kernel), List.mem_of_getElem? (i := 1578) (by decide +kernel), List.mem_of_getElem? (i := 1579) (by decide +kernel)⟩
theorem lw_p62 : lw_okq (⟨"GustHomeModel", "begins", "(I)V"⟩, 119) := ⟨⟨by decide +kernel, by decide +kernel⟩, List.mem_of_getElem? (i := 1197) (by decide +kernel), List.mem_of_getElem? (i := 1582) (by decide +kernel), List.mem_of_getElem? (i := 1583) (by decide +kernel)⟩
theorem lw_p63 : lw_okq (⟨"GustHomeModel", "isGood", "()Z"⟩, 119) := ⟨⟨by decide +kernel, by decide +kernel⟩, List.mem_of_getElem? (i := 1197) (by decide +kernel), List.mem_of_getElem? (i := 1586) (by decide +kernel), List.mem_of_getElem? (i := 1587) (by decide +kernel)⟩
def lw_privs_4 : List (MethodName × Nat) := [(⟨"GustHome$School", "lowestReady", "(II)I"⟩, 2), (⟨"GustHome$Houses", "highest", "(I)I"⟩, 5), (⟨"GustHome$Houses", "higher", "(II)Z"⟩, 5), (⟨"GustHome$Houses", "dearest", "(LGustHome$State;II)I"⟩, 5), (⟨"GustHome$Houses", "dearer", "(LGustHome$State;III)Z"⟩, 5), (⟨"GustHome", "sought", "(IIII)I"⟩, 15), (⟨"GustHome", "sightingsStand", "(I)Z"⟩, 15), (⟨"GustHome", "sightingsAgree", "(II)Z"⟩, 15), (⟨"GustHome$Planner", "staffFrom", "(III)V"⟩, 14), (⟨"GustHome$Planner", "waysOn", "(III)I"⟩, 14), (⟨"GustHome$Planner", "walkFirst", "()V"⟩, 14), (⟨"GustHome$Planner", "firstOn", "(II)I"⟩, 14), (⟨"GustHomeModel", "push", "(I)V"⟩, 119), (⟨"GustHomeModel", "takesText", "(IZ)I"⟩, 119), (⟨"GustHomeModel", "begins", "(I)V"⟩, 119), (⟨"GustHomeModel", "isGood", "()Z"⟩, 119)]
theorem lw_r4 : ∀ q ∈ lw_privs_4, lw_okq q := List.forall_mem_cons.mpr ⟨lw_p48, List.forall_mem_cons.mpr ⟨lw_p49, List.forall_mem_cons.mpr ⟨lw_p50, List.forall_mem_cons.mpr ⟨lw_p51, List.forall_mem_cons.mpr ⟨lw_p52, List.forall_mem_cons.mpr ⟨lw_p53, List.forall_mem_cons.mpr ⟨lw_p54, List.forall_mem_cons.mpr ⟨lw_p55, List.forall_mem_cons.mpr ⟨lw_p56, List.forall_mem_cons.mpr ⟨lw_p57, List.forall_mem_cons.mpr ⟨lw_p58, List.forall_mem_cons.mpr ⟨lw_p59, List.forall_mem_cons.mpr ⟨lw_p60, List.forall_mem_cons.mpr ⟨lw_p61, List.forall_mem_cons.mpr ⟨lw_p62, List.forall_mem_cons.mpr ⟨lw_p63, fun _ h => absurd h List.not_mem_nil⟩⟩⟩⟩⟩⟩⟩⟩⟩⟩⟩⟩⟩⟩⟩⟩
theorem lw_p64 : lw_okq (⟨"GustHomeModel", "clause", "(Z)V"⟩, 119) := ⟨⟨by decide +kernel, by decide +kernel⟩, List.mem_of_getElem? (i := 1197) (by decide +kernel), List.mem_of_getElem? (i := 1590) (by decide +kernel), List.mem_of_getElem? (i := 1591) (by decide +kernel)⟩
theorem lw_p65 : lw_okq (⟨"GustHomeModel", "here", "()I"⟩, 119) := ⟨⟨by decide +kernel, by decide +kernel⟩, List.mem_of_getElem? (i := 1197) (by decide +kernel), List.mem_of_getElem? (i := 1594) (by decide +kernel), List.mem_of_getElem? (i := 1595) (by decide +kernel)⟩
theorem lw_p66 : lw_okq (⟨"GustHomeModel", "wrongs", "(II)V"⟩, 119) := ⟨⟨by decide +kernel, by decide +kernel⟩, List.mem_of_getElem? (i := 1197) (by decide +kernel), List.mem_of_getElem? (i := 1601) (by decide +kernel), List.mem_of_getElem? (i := 1602) (by decide +kernel)⟩
theorem lw_p67 : lw_okq (⟨"GustHomeModel", "value", "()V"⟩, 119) := ⟨⟨by decide +kernel, by decide +kernel⟩, List.mem_of_getElem? (i := 1197) (by decide +kernel), List.mem_of_getElem? (i := 1605) (by decide +kernel), List.mem_of_getElem? (i := 1606) (by decide +kernel)⟩
theorem lw_p68 : lw_okq (⟨"GustHomeModel", "factor", "()V"⟩, 119) := ⟨⟨by decide +kernel, by decide +kernel⟩, List.mem_of_getElem? (i := 1197) (by decide +kernel), List.mem_of_getElem? (i := 1609) (by decide +kernel), List.mem_of_getElem? (i := 1610) (by decide +kernel)⟩
theorem lw_p69 : lw_okq (⟨"GustHomeModel", "opens", "()V"⟩, 119) := ⟨⟨by decide +kernel, by decide +kernel⟩, List.mem_of_getElem? (i := 1197) (by decide +kernel), List.mem_of_getElem? (i := 1613) (by decide +kernel), List.mem_of_getElem? (i := 1614) (by decide +kernel)⟩
theorem lw_p70 : lw_okq (⟨"GustHomeModel", "puts", "(I)V"⟩, 119) := ⟨⟨by decide +kernel, by decide +kernel⟩, List.mem_of_getElem? (i := 1197) (by decide +kernel), List.mem_of_getElem? (i := 1617) (by decide +kernel), List.mem_of_getElem? (i := 1618) (by decide +kernel)⟩
theorem lw_p71 : lw_okq (⟨"GustHomeModel", "seesDigit", "()Z"⟩, 119) := ⟨⟨by decide +kernel, by decide +kernel⟩, List.mem_of_getElem? (i := 1197) (by decide +kernel), List.mem_of_getElem? (i := 1621) (by decide +kernel), List.mem_of_getElem? (i := 1622) (by decide +kernel)⟩
theorem lw_p72 : lw_okq (⟨"GustHomeModel", "reads", "()I"⟩, 119) := ⟨⟨by decide +kernel, by decide +kernel⟩, List.mem_of_getElem? (i := 1197) (by decide +kernel), List.mem_of_getElem? (i := 1627) (by decide +kernel), List.mem_of_getElem? (i := 1628) (by decide +kernel)⟩
theorem lw_p73 : lw_okq (⟨"GustHomeModel", "emit", "(II)V"⟩, 119) := ⟨⟨by decide +kernel, by decide +kernel⟩, List.mem_of_getElem? (i := 1197) (by decide +kernel), List.mem_of_getElem? (i := 1631) (by decide +kernel), List.mem_of_getElem? (i := 1632) (by decide +kernel)⟩
theorem lw_p74 : lw_okq (⟨"GustHomeModel", "stays", "()Z"⟩, 119) := ⟨⟨by decide +kernel, by decide +kernel⟩, List.mem_of_getElem? (i := 1197) (by decide +kernel), List.mem_of_getElem? (i := 1638) (by decide +kernel), List.mem_of_getElem? (i := 1639) (by decide +kernel)⟩
theorem lw_p75 : lw_okq (⟨"GustHomeModel", "sums", "(Z)V"⟩, 119) := ⟨⟨by decide +kernel, by decide +kernel⟩, List.mem_of_getElem? (i := 1197) (by decide +kernel), List.mem_of_getElem? (i := 1648) (by decide +kernel), List.mem_of_getElem? (i := 1649) (by decide +kernel)⟩
theorem lw_p76 : lw_okq (⟨"GustHomeModel", "top", "()I"⟩, 119) := ⟨⟨by decide +kernel, by decide +kernel⟩, List.mem_of_getElem? (i := 1197) (by decide +kernel), List.mem_of_getElem? (i := 1652) (by decide +kernel), List.mem_of_getElem? (i := 1653) (by decide +kernel)⟩
theorem lw_p77 : lw_okq (⟨"GustHomeModel", "condition", "()V"⟩, 119) := ⟨⟨by decide +kernel, by decide +kernel⟩, List.mem_of_getElem? (i := 1197) (by decide +kernel), List.mem_of_getElem? (i := 1656) (by decide +kernel), List.mem_of_getElem? (i := 1657) (by decide +kernel)⟩
theorem lw_p78 : lw_okq (⟨"GustHomeModel", "pieceOfC", "()V"⟩, 119) := ⟨⟨by decide +kernel, by decide +kernel⟩, List.mem_of_getElem? (i := 1197) (by decide +kernel), List.mem_of_getElem? (i := 1660) (by decide +kernel), List.mem_of_getElem? (i := 1661) (by decide +kernel)⟩
theorem lw_p79 : lw_okq (⟨"GustHomeModel", "ends", "()V"⟩, 119) := ⟨⟨by decide +kernel, by decide +kernel⟩, List.mem_of_getElem? (i := 1197) (by decide +kernel), List.mem_of_getElem? (i := 1667) (by decide +kernel), List.mem_of_getElem? (i := 1668) (by decide +kernel)⟩
def lw_privs_5 : List (MethodName × Nat) := [(⟨"GustHomeModel", "clause", "(Z)V"⟩, 119), (⟨"GustHomeModel", "here", "()I"⟩, 119), (⟨"GustHomeModel", "wrongs", "(II)V"⟩, 119), (⟨"GustHomeModel", "value", "()V"⟩, 119), (⟨"GustHomeModel", "factor", "()V"⟩, 119), (⟨"GustHomeModel", "opens", "()V"⟩, 119), (⟨"GustHomeModel", "puts", "(I)V"⟩, 119), (⟨"GustHomeModel", "seesDigit", "()Z"⟩, 119), (⟨"GustHomeModel", "reads", "()I"⟩, 119), (⟨"GustHomeModel", "emit", "(II)V"⟩, 119), (⟨"GustHomeModel", "stays", "()Z"⟩, 119), (⟨"GustHomeModel", "sums", "(Z)V"⟩, 119), (⟨"GustHomeModel", "top", "()I"⟩, 119), (⟨"GustHomeModel", "condition", "()V"⟩, 119), (⟨"GustHomeModel", "pieceOfC", "()V"⟩, 119), (⟨"GustHomeModel", "ends", "()V"⟩, 119)]
theorem lw_r5 : ∀ q ∈ lw_privs_5, lw_okq q := List.forall_mem_cons.mpr ⟨lw_p64, List.forall_mem_cons.mpr ⟨lw_p65, List.forall_mem_cons.mpr ⟨lw_p66, List.forall_mem_cons.mpr ⟨lw_p67, List.forall_mem_cons.mpr ⟨lw_p68, List.forall_mem_cons.mpr ⟨lw_p69, List.forall_mem_cons.mpr ⟨lw_p70, List.forall_mem_cons.mpr ⟨lw_p71, List.forall_mem_cons.mpr ⟨lw_p72, List.forall_mem_cons.mpr ⟨lw_p73, List.forall_mem_cons.mpr ⟨lw_p74, List.forall_mem_cons.mpr ⟨lw_p75, List.forall_mem_cons.mpr ⟨lw_p76, List.forall_mem_cons.mpr ⟨lw_p77, List.forall_mem_cons.mpr ⟨lw_p78, List.forall_mem_cons.mpr ⟨lw_p79, fun _ h => absurd h List.not_mem_nil⟩⟩⟩⟩⟩⟩⟩⟩⟩⟩⟩⟩⟩⟩⟩⟩
theorem lw_p80 : lw_okq (⟨"GustHomeModel", "goesBehind", "()Z"⟩, 119) := ⟨⟨by decide +kernel, by decide +kernel⟩, List.mem_of_getElem? (i := 1197) (by decide +kernel), List.mem_of_getElem? (i := 1671) (by decide +kernel), List.mem_of_getElem? (i := 1672) (by decide +kernel)⟩
theorem lw_p81 : lw_okq (⟨"GustHomeModel", "joins", "(Z)V"⟩, 119) := ⟨⟨by decide +kernel, by decide +kernel⟩, List.mem_of_getElem? (i := 1197) (by decide +kernel), List.mem_of_getElem? (i := 1675) (by decide +kernel), List.mem_of_getElem? (i := 1676) (by decide +kernel)⟩
theorem lw_p82 : lw_okq (⟨"GustHomeModel", "isTold", "(I)Z"⟩, 119) := ⟨⟨by decide +kernel, by decide +kernel⟩, List.mem_of_getElem? (i := 1197) (by decide +kernel), List.mem_of_getElem? (i := 1698) (by decide +kernel), List.mem_of_getElem? (i := 1699) (by decide +kernel)⟩
theorem lw_p83 : lw_okq (⟨"GustHomeModel", "manyIn", "(I)I"⟩, 119) := ⟨⟨by decide +kernel, by decide +kernel⟩, List.mem_of_getElem? (i := 1197) (by decide +kernel), List.mem_of_getElem? (i := 1707) (by decide +kernel), List.mem_of_getElem? (i := 1708) (by decide +kernel)⟩
theorem lw_p84 : lw_okq (⟨"GustHomeModel", "isIn", "(II)Z"⟩, 119) := ⟨⟨by decide +kernel, by decide +kernel⟩, List.mem_of_getElem? (i := 1197) (by decide +kernel), List.mem_of_getElem? (i := 1711) (by decide +kernel), List.mem_of_getElem? (i := 1712) (by decide +kernel)⟩
theorem lw_p85 : lw_okq (⟨"GustHomeModel", "monthTold", "()V"⟩, 119) := ⟨⟨by decide +kernel, by decide +kernel⟩, List.mem_of_getElem? (i := 1197) (by decide +kernel), List.mem_of_getElem? (i := 1745) (by decide +kernel), List.mem_of_getElem? (i := 1746) (by decide +kernel)⟩
theorem lw_p86 : lw_okq (⟨"GustHomeModel", "repeats", "(III)V"⟩, 119) := ⟨⟨by decide +kernel, by decide +kernel⟩, List.mem_of_getElem? (i := 1197) (by decide +kernel), List.mem_of_getElem? (i := 1749) (by decide +kernel), List.mem_of_getElem? (i := 1750) (by decide +kernel)⟩
theorem lw_p87 : lw_okq (⟨"GustHomeModel", "timesTold", "()I"⟩, 119) := ⟨⟨by decide +kernel, by decide +kernel⟩, List.mem_of_getElem? (i := 1197) (by decide +kernel), List.mem_of_getElem? (i := 1753) (by decide +kernel), List.mem_of_getElem? (i := 1754) (by decide +kernel)⟩
theorem lw_p88 : lw_okq (⟨"GustHomeModel", "go", "(I)V"⟩, 119) := ⟨⟨by decide +kernel, by decide +kernel⟩, List.mem_of_getElem? (i := 1197) (by decide +kernel), List.mem_of_getElem? (i := 1764) (by decide +kernel), List.mem_of_getElem? (i := 1765) (by decide +kernel)⟩
theorem lw_p89 : lw_okq (⟨"GustHomeModel", "weakens", "()V"⟩, 119) := ⟨⟨by decide +kernel, by decide +kernel⟩, List.mem_of_getElem? (i := 1197) (by decide +kernel), List.mem_of_getElem? (i := 1768) (by decide +kernel), List.mem_of_getElem? (i := 1769) (by decide +kernel)⟩
theorem lw_p90 : lw_okq (⟨"GustHomeModel", "gustStands", "(I)V"⟩, 119) := ⟨⟨by decide +kernel, by decide +kernel⟩, List.mem_of_getElem? (i := 1197) (by decide +kernel), List.mem_of_getElem? (i := 1772) (by decide +kernel), List.mem_of_getElem? (i := 1773) (by decide +kernel)⟩
theorem lw_p91 : lw_okq (⟨"GustHomeModel", "nothingStands", "()V"⟩, 119) := ⟨⟨by decide +kernel, by decide +kernel⟩, List.mem_of_getElem? (i := 1197) (by decide +kernel), List.mem_of_getElem? (i := 1776) (by decide +kernel), List.mem_of_getElem? (i := 1777) (by decide +kernel)⟩
theorem lw_p92 : lw_okq (⟨"GustHomeModel", "tells", "(II)I"⟩, 119) := ⟨⟨by decide +kernel, by decide +kernel⟩, List.mem_of_getElem? (i := 1197) (by decide +kernel), List.mem_of_getElem? (i := 1783) (by decide +kernel), List.mem_of_getElem? (i := 1784) (by decide +kernel)⟩
theorem lw_p93 : lw_okq (⟨"GustHomeModel", "isSo", "(I)Z"⟩, 119) := ⟨⟨by decide +kernel, by decide +kernel⟩, List.mem_of_getElem? (i := 1197) (by decide +kernel), List.mem_of_getElem? (i := 1787) (by decide +kernel), List.mem_of_getElem? (i := 1788) (by decide +kernel)⟩
theorem lw_p94 : lw_okq (⟨"GustHomeModel", "works", "(II)V"⟩, 119) := ⟨⟨by decide +kernel, by decide +kernel⟩, List.mem_of_getElem? (i := 1197) (by decide +kernel), List.mem_of_getElem? (i := 1791) (by decide +kernel), List.mem_of_getElem? (i := 1792) (by decide +kernel)⟩
theorem lw_p95 : lw_okq (⟨"GustHomeModel", "does", "(II)V"⟩, 119) := ⟨⟨by decide +kernel, by decide +kernel⟩, List.mem_of_getElem? (i := 1197) (by decide +kernel), List.mem_of_getElem? (i := 1795) (by decide +kernel), List.mem_of_getElem? (i := 1796) (by decide +kernel)⟩
def lw_privs_6 : List (MethodName × Nat) := [(⟨"GustHomeModel", "goesBehind", "()Z"⟩, 119), (⟨"GustHomeModel", "joins", "(Z)V"⟩, 119), (⟨"GustHomeModel", "isTold", "(I)Z"⟩, 119), (⟨"GustHomeModel", "manyIn", "(I)I"⟩, 119), (⟨"GustHomeModel", "isIn", "(II)Z"⟩, 119), (⟨"GustHomeModel", "monthTold", "()V"⟩, 119), (⟨"GustHomeModel", "repeats", "(III)V"⟩, 119), (⟨"GustHomeModel", "timesTold", "()I"⟩, 119), (⟨"GustHomeModel", "go", "(I)V"⟩, 119), (⟨"GustHomeModel", "weakens", "()V"⟩, 119), (⟨"GustHomeModel", "gustStands", "(I)V"⟩, 119), (⟨"GustHomeModel", "nothingStands", "()V"⟩, 119), (⟨"GustHomeModel", "tells", "(II)I"⟩, 119), (⟨"GustHomeModel", "isSo", "(I)Z"⟩, 119), (⟨"GustHomeModel", "works", "(II)V"⟩, 119), (⟨"GustHomeModel", "does", "(II)V"⟩, 119)]
theorem lw_r6 : ∀ q ∈ lw_privs_6, lw_okq q := List.forall_mem_cons.mpr ⟨lw_p80, List.forall_mem_cons.mpr ⟨lw_p81, List.forall_mem_cons.mpr ⟨lw_p82, List.forall_mem_cons.mpr ⟨lw_p83, List.forall_mem_cons.mpr ⟨lw_p84, List.forall_mem_cons.mpr ⟨lw_p85, List.forall_mem_cons.mpr ⟨lw_p86, List.forall_mem_cons.mpr ⟨lw_p87, List.forall_mem_cons.mpr ⟨lw_p88, List.forall_mem_cons.mpr ⟨lw_p89, List.forall_mem_cons.mpr ⟨lw_p90, List.forall_mem_cons.mpr ⟨lw_p91, List.forall_mem_cons.mpr ⟨lw_p92, List.forall_mem_cons.mpr ⟨lw_p93, List.forall_mem_cons.mpr ⟨lw_p94, List.forall_mem_cons.mpr ⟨lw_p95, fun _ h => absurd h List.not_mem_nil⟩⟩⟩⟩⟩⟩⟩⟩⟩⟩⟩⟩⟩⟩⟩⟩
theorem lw_p96 : lw_okq (⟨"GustHomeModel", "valueOf", "(I)I"⟩, 119) := ⟨⟨by decide +kernel, by decide +kernel⟩, List.mem_of_getElem? (i := 1197) (by decide +kernel), List.mem_of_getElem? (i := 1802) (by decide +kernel), List.mem_of_getElem? (i := 1803) (by decide +kernel)⟩
theorem lw_p97 : lw_okq (⟨"GustHomeModel", "wardsGo", "()V"⟩, 119) := ⟨⟨by decide +kernel, by decide +kernel⟩, List.mem_of_getElem? (i := 1197) (by decide +kernel), List.mem_of_getElem? (i := 1809) (by decide +kernel), List.mem_of_getElem? (i := 1810) (by decide +kernel)⟩
theorem lw_p98 : lw_okq (⟨"GustHomeModel", "isWell", "(I)Z"⟩, 119) := ⟨⟨by decide +kernel, by decide +kernel⟩, List.mem_of_getElem? (i := 1197) (by decide +kernel), List.mem_of_getElem? (i := 1813) (by decide +kernel), List.mem_of_getElem? (i := 1814) (by decide +kernel)⟩
theorem lw_p99 : lw_okq (⟨"GustHomeModel", "isThere", "(I)Z"⟩, 119) := ⟨⟨by decide +kernel, by decide +kernel⟩, List.mem_of_getElem? (i := 1197) (by decide +kernel), List.mem_of_getElem? (i := 1817) (by decide +kernel), List.mem_of_getElem? (i := 1818) (by decide +kernel)⟩
theorem lw_p100 : lw_okq (⟨"GustHomeModel", "feeds", "(I)V"⟩, 119) := ⟨⟨by decide +kernel, by decide +kernel⟩, List.mem_of_getElem? (i := 1197) (by decide +kernel), List.mem_of_getElem? (i := 1821) (by decide +kernel), List.mem_of_getElem? (i := 1822) (by decide +kernel)⟩
theorem lw_p101 : lw_okq (⟨"GustHomeModel", "teaches", "(I)V"⟩, 119) := ⟨⟨by decide +kernel, by decide +kernel⟩, List.mem_of_getElem? (i := 1197) (by decide +kernel), List.mem_of_getElem? (i := 1825) (by decide +kernel), List.mem_of_getElem? (i := 1826) (by decide +kernel)⟩
theorem lw_p102 : lw_okq (⟨"GustHomeModel", "lessonOf", "(I)I"⟩, 119) := ⟨⟨by decide +kernel, by decide +kernel⟩, List.mem_of_getElem? (i := 1197) (by decide +kernel), List.mem_of_getElem? (i := 1829) (by decide +kernel), List.mem_of_getElem? (i := 1830) (by decide +kernel)⟩
theorem lw_p103 : lw_okq (⟨"GustHomeModel", "says", "(I)Z"⟩, 119) := ⟨⟨by decide +kernel, by decide +kernel⟩, List.mem_of_getElem? (i := 1197) (by decide +kernel), List.mem_of_getElem? (i := 1833) (by decide +kernel), List.mem_of_getElem? (i := 1834) (by decide +kernel)⟩
theorem lw_p104 : lw_okq (⟨"GustHomeModel", "breaks", "()V"⟩, 119) := ⟨⟨by decide +kernel, by decide +kernel⟩, List.mem_of_getElem? (i := 1197) (by decide +kernel), List.mem_of_getElem? (i := 1837) (by decide +kernel), List.mem_of_getElem? (i := 1838) (by decide +kernel)⟩
theorem lw_p105 : lw_okq (⟨"GustHomeModel", "whistle", "()V"⟩, 119) := ⟨⟨by decide +kernel, by decide +kernel⟩, List.mem_of_getElem? (i := 1197) (by decide +kernel), List.mem_of_getElem? (i := 1841) (by decide +kernel), List.mem_of_getElem? (i := 1842) (by decide +kernel)⟩
theorem lw_p106 : lw_okq (⟨"GustHomeModel", "doQuarrel", "(II)Z"⟩, 119) := ⟨⟨by decide +kernel, by decide +kernel⟩, List.mem_of_getElem? (i := 1197) (by decide +kernel), List.mem_of_getElem? (i := 1845) (by decide +kernel), List.mem_of_getElem? (i := 1846) (by decide +kernel)⟩
theorem lw_p107 : lw_okq (⟨"GustHomeModel", "isAngry", "(II)Z"⟩, 119) := ⟨⟨by decide +kernel, by decide +kernel⟩, List.mem_of_getElem? (i := 1197) (by decide +kernel), List.mem_of_getElem? (i := 1849) (by decide +kernel), List.mem_of_getElem? (i := 1850) (by decide +kernel)⟩
theorem lw_p108 : lw_okq (⟨"GustHomeModel", "nursesGo", "()V"⟩, 119) := ⟨⟨by decide +kernel, by decide +kernel⟩, List.mem_of_getElem? (i := 1197) (by decide +kernel), List.mem_of_getElem? (i := 1853) (by decide +kernel), List.mem_of_getElem? (i := 1854) (by decide +kernel)⟩
theorem lw_p109 : lw_okq (⟨"GustHomeModel", "falling", "(II)I"⟩, 119) := ⟨⟨by decide +kernel, by decide +kernel⟩, List.mem_of_getElem? (i := 1197) (by decide +kernel), List.mem_of_getElem? (i := 1857) (by decide +kernel), List.mem_of_getElem? (i := 1858) (by decide +kernel)⟩
theorem lw_p110 : lw_okq (⟨"GustHomeModel", "draw", "()I"⟩, 119) := ⟨⟨by decide +kernel, by decide +kernel⟩, List.mem_of_getElem? (i := 1197) (by decide +kernel), List.mem_of_getElem? (i := 1861) (by decide +kernel), List.mem_of_getElem? (i := 1862) (by decide +kernel)⟩
theorem lw_p111 : lw_okq (⟨"GustHomeModel", "judges", "()V"⟩, 119) := ⟨⟨by decide +kernel, by decide +kernel⟩, List.mem_of_getElem? (i := 1197) (by decide +kernel), List.mem_of_getElem? (i := 1866) (by decide +kernel), List.mem_of_getElem? (i := 1867) (by decide +kernel)⟩
def lw_privs_7 : List (MethodName × Nat) := [(⟨"GustHomeModel", "valueOf", "(I)I"⟩, 119), (⟨"GustHomeModel", "wardsGo", "()V"⟩, 119), (⟨"GustHomeModel", "isWell", "(I)Z"⟩, 119), (⟨"GustHomeModel", "isThere", "(I)Z"⟩, 119), (⟨"GustHomeModel", "feeds", "(I)V"⟩, 119), (⟨"GustHomeModel", "teaches", "(I)V"⟩, 119), (⟨"GustHomeModel", "lessonOf", "(I)I"⟩, 119), (⟨"GustHomeModel", "says", "(I)Z"⟩, 119), (⟨"GustHomeModel", "breaks", "()V"⟩, 119), (⟨"GustHomeModel", "whistle", "()V"⟩, 119), (⟨"GustHomeModel", "doQuarrel", "(II)Z"⟩, 119), (⟨"GustHomeModel", "isAngry", "(II)Z"⟩, 119), (⟨"GustHomeModel", "nursesGo", "()V"⟩, 119), (⟨"GustHomeModel", "falling", "(II)I"⟩, 119), (⟨"GustHomeModel", "draw", "()I"⟩, 119), (⟨"GustHomeModel", "judges", "()V"⟩, 119)]
theorem lw_r7 : ∀ q ∈ lw_privs_7, lw_okq q := List.forall_mem_cons.mpr ⟨lw_p96, List.forall_mem_cons.mpr ⟨lw_p97, List.forall_mem_cons.mpr ⟨lw_p98, List.forall_mem_cons.mpr ⟨lw_p99, List.forall_mem_cons.mpr ⟨lw_p100, List.forall_mem_cons.mpr ⟨lw_p101, List.forall_mem_cons.mpr ⟨lw_p102, List.forall_mem_cons.mpr ⟨lw_p103, List.forall_mem_cons.mpr ⟨lw_p104, List.forall_mem_cons.mpr ⟨lw_p105, List.forall_mem_cons.mpr ⟨lw_p106, List.forall_mem_cons.mpr ⟨lw_p107, List.forall_mem_cons.mpr ⟨lw_p108, List.forall_mem_cons.mpr ⟨lw_p109, List.forall_mem_cons.mpr ⟨lw_p110, List.forall_mem_cons.mpr ⟨lw_p111, fun _ h => absurd h List.not_mem_nil⟩⟩⟩⟩⟩⟩⟩⟩⟩⟩⟩⟩⟩⟩⟩⟩
theorem lw_p112 : lw_okq (⟨"GustHomeModel", "isKeptBy", "(II)Z"⟩, 119) := ⟨⟨by decide +kernel, by decide +kernel⟩, List.mem_of_getElem? (i := 1197) (by decide +kernel), List.mem_of_getElem? (i := 1870) (by decide +kernel), List.mem_of_getElem? (i := 1871) (by decide +kernel)⟩
theorem lw_p113 : lw_okq (⟨"GustHomeModel", "togetherIn", "(I)I"⟩, 119) := ⟨⟨by decide +kernel, by decide +kernel⟩, List.mem_of_getElem? (i := 1197) (by decide +kernel), List.mem_of_getElem? (i := 1874) (by decide +kernel), List.mem_of_getElem? (i := 1875) (by decide +kernel)⟩
theorem lw_p114 : lw_okq (⟨"GustHomeModel", "laysAside", "(I)V"⟩, 119) := ⟨⟨by decide +kernel, by decide +kernel⟩, List.mem_of_getElem? (i := 1197) (by decide +kernel), List.mem_of_getElem? (i := 1883) (by decide +kernel), List.mem_of_getElem? (i := 1884) (by decide +kernel)⟩
theorem lw_p115 : lw_okq (⟨"GustHomeModel", "bringsBack", "(I)V"⟩, 119) := ⟨⟨by decide +kernel, by decide +kernel⟩, List.mem_of_getElem? (i := 1197) (by decide +kernel), List.mem_of_getElem? (i := 1887) (by decide +kernel), List.mem_of_getElem? (i := 1888) (by decide +kernel)⟩
theorem lw_p116 : lw_okq (⟨"GustHomeModel", "setIn", "(I)I"⟩, 119) := ⟨⟨by decide +kernel, by decide +kernel⟩, List.mem_of_getElem? (i := 1197) (by decide +kernel), List.mem_of_getElem? (i := 1902) (by decide +kernel), List.mem_of_getElem? (i := 1903) (by decide +kernel)⟩
theorem lw_p117 : lw_okq (⟨"GustHomeModel", "brokenIn", "(I)I"⟩, 119) := ⟨⟨by decide +kernel, by decide +kernel⟩, List.mem_of_getElem? (i := 1197) (by decide +kernel), List.mem_of_getElem? (i := 1906) (by decide +kernel), List.mem_of_getElem? (i := 1907) (by decide +kernel)⟩
theorem lw_p118 : lw_okq (⟨"GustHomeModel", "areGusts", "(III)Z"⟩, 119) := ⟨⟨by decide +kernel, by decide +kernel⟩, List.mem_of_getElem? (i := 1197) (by decide +kernel), List.mem_of_getElem? (i := 1922) (by decide +kernel), List.mem_of_getElem? (i := 1923) (by decide +kernel)⟩
theorem lw_p119 : lw_okq (⟨"GustHomeModel", "toldGusts", "()I"⟩, 119) := ⟨⟨by decide +kernel, by decide +kernel⟩, List.mem_of_getElem? (i := 1197) (by decide +kernel), List.mem_of_getElem? (i := 1926) (by decide +kernel), List.mem_of_getElem? (i := 1927) (by decide +kernel)⟩
theorem lw_p120 : lw_okq (⟨"GustHomeModel", "takesSome", "(I)I"⟩, 119) := ⟨⟨by decide +kernel, by decide +kernel⟩, List.mem_of_getElem? (i := 1197) (by decide +kernel), List.mem_of_getElem? (i := 1931) (by decide +kernel), List.mem_of_getElem? (i := 1932) (by decide +kernel)⟩
theorem lw_p121 : lw_okq (⟨"GustHomeModel", "takesPlaces", "(I)I"⟩, 119) := ⟨⟨by decide +kernel, by decide +kernel⟩, List.mem_of_getElem? (i := 1197) (by decide +kernel), List.mem_of_getElem? (i := 1935) (by decide +kernel), List.mem_of_getElem? (i := 1936) (by decide +kernel)⟩
theorem lw_p122 : lw_okq (⟨"GustHomeModel", "opensRow", "(III)V"⟩, 119) := ⟨⟨by decide +kernel, by decide +kernel⟩, List.mem_of_getElem? (i := 1197) (by decide +kernel), List.mem_of_getElem? (i := 1943) (by decide +kernel), List.mem_of_getElem? (i := 1944) (by decide +kernel)⟩
theorem lw_p123 : lw_okq (⟨"GustHomeModel", "isRoomFor", "(II)Z"⟩, 119) := ⟨⟨by decide +kernel, by decide +kernel⟩, List.mem_of_getElem? (i := 1197) (by decide +kernel), List.mem_of_getElem? (i := 1947) (by decide +kernel), List.mem_of_getElem? (i := 1948) (by decide +kernel)⟩
theorem lw_p124 : lw_okq (⟨"GustHomeModel", "twosIn", "(I)I"⟩, 119) := ⟨⟨by decide +kernel, by decide +kernel⟩, List.mem_of_getElem? (i := 1197) (by decide +kernel), List.mem_of_getElem? (i := 1951) (by decide +kernel), List.mem_of_getElem? (i := 1952) (by decide +kernel)⟩
theorem lw_p125 : lw_okq (⟨"GustHomeModel", "keepsRow", "(I)V"⟩, 119) := ⟨⟨by decide +kernel, by decide +kernel⟩, List.mem_of_getElem? (i := 1197) (by decide +kernel), List.mem_of_getElem? (i := 1955) (by decide +kernel), List.mem_of_getElem? (i := 1956) (by decide +kernel)⟩
theorem lw_p126 : lw_okq (⟨"GustHomeModel", "laysLeaving", "(I)V"⟩, 119) := ⟨⟨by decide +kernel, by decide +kernel⟩, List.mem_of_getElem? (i := 1197) (by decide +kernel), List.mem_of_getElem? (i := 1972) (by decide +kernel), List.mem_of_getElem? (i := 1973) (by decide +kernel)⟩
theorem lw_p127 : lw_okq (⟨"GustHomeModel", "canLeave", "(I)Z"⟩, 119) := ⟨⟨by decide +kernel, by decide +kernel⟩, List.mem_of_getElem? (i := 1197) (by decide +kernel), List.mem_of_getElem? (i := 1976) (by decide +kernel), List.mem_of_getElem? (i := 1977) (by decide +kernel)⟩
def lw_privs_8 : List (MethodName × Nat) := [(⟨"GustHomeModel", "isKeptBy", "(II)Z"⟩, 119), (⟨"GustHomeModel", "togetherIn", "(I)I"⟩, 119), (⟨"GustHomeModel", "laysAside", "(I)V"⟩, 119), (⟨"GustHomeModel", "bringsBack", "(I)V"⟩, 119), (⟨"GustHomeModel", "setIn", "(I)I"⟩, 119), (⟨"GustHomeModel", "brokenIn", "(I)I"⟩, 119), (⟨"GustHomeModel", "areGusts", "(III)Z"⟩, 119), (⟨"GustHomeModel", "toldGusts", "()I"⟩, 119), (⟨"GustHomeModel", "takesSome", "(I)I"⟩, 119), (⟨"GustHomeModel", "takesPlaces", "(I)I"⟩, 119), (⟨"GustHomeModel", "opensRow", "(III)V"⟩, 119), (⟨"GustHomeModel", "isRoomFor", "(II)Z"⟩, 119), (⟨"GustHomeModel", "twosIn", "(I)I"⟩, 119), (⟨"GustHomeModel", "keepsRow", "(I)V"⟩, 119), (⟨"GustHomeModel", "laysLeaving", "(I)V"⟩, 119), (⟨"GustHomeModel", "canLeave", "(I)Z"⟩, 119)]
theorem lw_r8 : ∀ q ∈ lw_privs_8, lw_okq q := List.forall_mem_cons.mpr ⟨lw_p112, List.forall_mem_cons.mpr ⟨lw_p113, List.forall_mem_cons.mpr ⟨lw_p114, List.forall_mem_cons.mpr ⟨lw_p115, List.forall_mem_cons.mpr ⟨lw_p116, List.forall_mem_cons.mpr ⟨lw_p117, List.forall_mem_cons.mpr ⟨lw_p118, List.forall_mem_cons.mpr ⟨lw_p119, List.forall_mem_cons.mpr ⟨lw_p120, List.forall_mem_cons.mpr ⟨lw_p121, List.forall_mem_cons.mpr ⟨lw_p122, List.forall_mem_cons.mpr ⟨lw_p123, List.forall_mem_cons.mpr ⟨lw_p124, List.forall_mem_cons.mpr ⟨lw_p125, List.forall_mem_cons.mpr ⟨lw_p126, List.forall_mem_cons.mpr ⟨lw_p127, fun _ h => absurd h List.not_mem_nil⟩⟩⟩⟩⟩⟩⟩⟩⟩⟩⟩⟩⟩⟩⟩⟩
theorem lw_p128 : lw_okq (⟨"GustHomeModel", "canGo", "(II)Z"⟩, 119) := ⟨⟨by decide +kernel, by decide +kernel⟩, List.mem_of_getElem? (i := 1197) (by decide +kernel), List.mem_of_getElem? (i := 1980) (by decide +kernel), List.mem_of_getElem? (i := 1981) (by decide +kernel)⟩
theorem lw_p129 : lw_okq (⟨"GustHomeModel", "homesFor", "(II)I"⟩, 119) := ⟨⟨by decide +kernel, by decide +kernel⟩, List.mem_of_getElem? (i := 1197) (by decide +kernel), List.mem_of_getElem? (i := 1996) (by decide +kernel), List.mem_of_getElem? (i := 1997) (by decide +kernel)⟩
theorem lw_p130 : lw_okq (⟨"GustHomeModel", "greaterPart", "(II)I"⟩, 119) := ⟨⟨by decide +kernel, by decide +kernel⟩, List.mem_of_getElem? (i := 1197) (by decide +kernel), List.mem_of_getElem? (i := 2000) (by decide +kernel), List.mem_of_getElem? (i := 2001) (by decide +kernel)⟩
theorem lw_p131 : lw_okq (⟨"GustHomeModel", "laysLessons", "(II)Z"⟩, 119) := ⟨⟨by decide +kernel, by decide +kernel⟩, List.mem_of_getElem? (i := 1197) (by decide +kernel), List.mem_of_getElem? (i := 2008) (by decide +kernel), List.mem_of_getElem? (i := 2009) (by decide +kernel)⟩
theorem lw_p132 : lw_okq (⟨"GustHomeModel", "laysPlaces", "(I)V"⟩, 119) := ⟨⟨by decide +kernel, by decide +kernel⟩, List.mem_of_getElem? (i := 1197) (by decide +kernel), List.mem_of_getElem? (i := 2020) (by decide +kernel), List.mem_of_getElem? (i := 2021) (by decide +kernel)⟩
theorem lw_p133 : lw_okq (⟨"GustHomeModel", "isAnywhere", "(I)Z"⟩, 119) := ⟨⟨by decide +kernel, by decide +kernel⟩, List.mem_of_getElem? (i := 1197) (by decide +kernel), List.mem_of_getElem? (i := 2024) (by decide +kernel), List.mem_of_getElem? (i := 2025) (by decide +kernel)⟩
theorem lw_p134 : lw_okq (⟨"GustHomeModel", "asksNext", "(I)I"⟩, 119) := ⟨⟨by decide +kernel, by decide +kernel⟩, List.mem_of_getElem? (i := 1197) (by decide +kernel), List.mem_of_getElem? (i := 2028) (by decide +kernel), List.mem_of_getElem? (i := 2029) (by decide +kernel)⟩
theorem lw_p135 : lw_okq (⟨"GustHomeModel", "isHigher", "(II)Z"⟩, 119) := ⟨⟨by decide +kernel, by decide +kernel⟩, List.mem_of_getElem? (i := 1197) (by decide +kernel), List.mem_of_getElem? (i := 2032) (by decide +kernel), List.mem_of_getElem? (i := 2033) (by decide +kernel)⟩
theorem lw_p136 : lw_okq (⟨"GustHomeModel", "isLiked", "(III)Z"⟩, 119) := ⟨⟨by decide +kernel, by decide +kernel⟩, List.mem_of_getElem? (i := 1197) (by decide +kernel), List.mem_of_getElem? (i := 2036) (by decide +kernel), List.mem_of_getElem? (i := 2037) (by decide +kernel)⟩
theorem lw_p137 : lw_okq (⟨"GustHomeModel", "byteAt", "(I)I"⟩, 119) := ⟨⟨by decide +kernel, by decide +kernel⟩, List.mem_of_getElem? (i := 1197) (by decide +kernel), List.mem_of_getElem? (i := 2044) (by decide +kernel), List.mem_of_getElem? (i := 2045) (by decide +kernel)⟩
theorem lw_p138 : lw_okq (⟨"GustHomeModel", "hourOf", "(I)I"⟩, 119) := ⟨⟨by decide +kernel, by decide +kernel⟩, List.mem_of_getElem? (i := 1197) (by decide +kernel), List.mem_of_getElem? (i := 2053) (by decide +kernel), List.mem_of_getElem? (i := 2054) (by decide +kernel)⟩
theorem lw_p139 : lw_okq (⟨"GustHomeModel", "laysAhead", "(II)Z"⟩, 119) := ⟨⟨by decide +kernel, by decide +kernel⟩, List.mem_of_getElem? (i := 1197) (by decide +kernel), List.mem_of_getElem? (i := 2057) (by decide +kernel), List.mem_of_getElem? (i := 2058) (by decide +kernel)⟩
theorem lw_p140 : lw_okq (⟨"GustHomeModel", "laysBehind", "(II)V"⟩, 119) := ⟨⟨by decide +kernel, by decide +kernel⟩, List.mem_of_getElem? (i := 1197) (by decide +kernel), List.mem_of_getElem? (i := 2068) (by decide +kernel), List.mem_of_getElem? (i := 2069) (by decide +kernel)⟩
theorem lw_p141 : lw_okq (⟨"GustHomeModel", "toldNurses", "()I"⟩, 119) := ⟨⟨by decide +kernel, by decide +kernel⟩, List.mem_of_getElem? (i := 1197) (by decide +kernel), List.mem_of_getElem? (i := 2076) (by decide +kernel), List.mem_of_getElem? (i := 2077) (by decide +kernel)⟩
theorem lw_p142 : lw_okq (⟨"GustHomeModel", "isOrder", "(I)Z"⟩, 119) := ⟨⟨by decide +kernel, by decide +kernel⟩, List.mem_of_getElem? (i := 1197) (by decide +kernel), List.mem_of_getElem? (i := 2080) (by decide +kernel), List.mem_of_getElem? (i := 2081) (by decide +kernel)⟩
theorem lw_p143 : lw_okq (⟨"GustHomeModel", "laysRing", "(I)V"⟩, 119) := ⟨⟨by decide +kernel, by decide +kernel⟩, List.mem_of_getElem? (i := 1197) (by decide +kernel), List.mem_of_getElem? (i := 2088) (by decide +kernel), List.mem_of_getElem? (i := 2089) (by decide +kernel)⟩
def lw_privs_9 : List (MethodName × Nat) := [(⟨"GustHomeModel", "canGo", "(II)Z"⟩, 119), (⟨"GustHomeModel", "homesFor", "(II)I"⟩, 119), (⟨"GustHomeModel", "greaterPart", "(II)I"⟩, 119), (⟨"GustHomeModel", "laysLessons", "(II)Z"⟩, 119), (⟨"GustHomeModel", "laysPlaces", "(I)V"⟩, 119), (⟨"GustHomeModel", "isAnywhere", "(I)Z"⟩, 119), (⟨"GustHomeModel", "asksNext", "(I)I"⟩, 119), (⟨"GustHomeModel", "isHigher", "(II)Z"⟩, 119), (⟨"GustHomeModel", "isLiked", "(III)Z"⟩, 119), (⟨"GustHomeModel", "byteAt", "(I)I"⟩, 119), (⟨"GustHomeModel", "hourOf", "(I)I"⟩, 119), (⟨"GustHomeModel", "laysAhead", "(II)Z"⟩, 119), (⟨"GustHomeModel", "laysBehind", "(II)V"⟩, 119), (⟨"GustHomeModel", "toldNurses", "()I"⟩, 119), (⟨"GustHomeModel", "isOrder", "(I)Z"⟩, 119), (⟨"GustHomeModel", "laysRing", "(I)V"⟩, 119)]
theorem lw_r9 : ∀ q ∈ lw_privs_9, lw_okq q := List.forall_mem_cons.mpr ⟨lw_p128, List.forall_mem_cons.mpr ⟨lw_p129, List.forall_mem_cons.mpr ⟨lw_p130, List.forall_mem_cons.mpr ⟨lw_p131, List.forall_mem_cons.mpr ⟨lw_p132, List.forall_mem_cons.mpr ⟨lw_p133, List.forall_mem_cons.mpr ⟨lw_p134, List.forall_mem_cons.mpr ⟨lw_p135, List.forall_mem_cons.mpr ⟨lw_p136, List.forall_mem_cons.mpr ⟨lw_p137, List.forall_mem_cons.mpr ⟨lw_p138, List.forall_mem_cons.mpr ⟨lw_p139, List.forall_mem_cons.mpr ⟨lw_p140, List.forall_mem_cons.mpr ⟨lw_p141, List.forall_mem_cons.mpr ⟨lw_p142, List.forall_mem_cons.mpr ⟨lw_p143, fun _ h => absurd h List.not_mem_nil⟩⟩⟩⟩⟩⟩⟩⟩⟩⟩⟩⟩⟩⟩⟩⟩
theorem lw_p144 : lw_okq (⟨"GustHomeModel", "toldOf", "(I)I"⟩, 119) := ⟨⟨by decide +kernel, by decide +kernel⟩, List.mem_of_getElem? (i := 1197) (by decide +kernel), List.mem_of_getElem? (i := 2121) (by decide +kernel), List.mem_of_getElem? (i := 2122) (by decide +kernel)⟩
def lw_privs_10 : List (MethodName × Nat) := [(⟨"GustHomeModel", "toldOf", "(I)I"⟩, 119)]
theorem lw_r10 : ∀ q ∈ lw_privs_10, lw_okq q := List.forall_mem_cons.mpr ⟨lw_p144, fun _ h => absurd h List.not_mem_nil⟩
def lw_privs : List (MethodName × Nat) := lw_privs_1 ++ (lw_privs_2 ++ (lw_privs_3 ++ (lw_privs_4 ++ (lw_privs_5 ++ (lw_privs_6 ++ (lw_privs_7 ++ (lw_privs_8 ++ (lw_privs_9 ++ (lw_privs_10)))))))))
def lw_tbl : List Cond := k2_sels lw_privs ++ tables_1
theorem lw_privs_ok : ∀ q ∈ lw_privs, lw_okq q := by
  show ∀ q ∈ lw_privs_1 ++ (lw_privs_2 ++ (lw_privs_3 ++ (lw_privs_4 ++ (lw_privs_5 ++ (lw_privs_6 ++ (lw_privs_7 ++ (lw_privs_8 ++ (lw_privs_9 ++ (lw_privs_10))))))))), lw_okq q
  exact List.forall_mem_append.mpr ⟨lw_r1, List.forall_mem_append.mpr ⟨lw_r2, List.forall_mem_append.mpr ⟨lw_r3, List.forall_mem_append.mpr ⟨lw_r4, List.forall_mem_append.mpr ⟨lw_r5, List.forall_mem_append.mpr ⟨lw_r6, List.forall_mem_append.mpr ⟨lw_r7, List.forall_mem_append.mpr ⟨lw_r8, List.forall_mem_append.mpr ⟨lw_r9, lw_r10⟩⟩⟩⟩⟩⟩⟩⟩⟩
end
section
/-! ===== BEGIN words of one list among another's, by their places ===== -/
theorem goodIn_r {big : List Cond} (ws : List Cond) (ps : List Nat) (hp : ws = ps.filterMap (fun i => big[i]?)) (h : ws.all goodWord = true) : GoodIn big ws := by
  intro w hw
  have h1 := List.all_eq_true.mp h w hw
  rw [hp] at hw
  obtain ⟨i, -, hi⟩ := List.mem_filterMap.mp hw
  have hm : w ∈ big := by first | exact List.mem_of_getElem? hi | exact List.getElem?_mem hi
  exact ⟨hm, good_of_word h1⟩
theorem goodIn_app {big a b : List Cond} (ha : GoodIn big a) (hb : GoodIn big b) : GoodIn big (a ++ b) := fun w h => (List.mem_append.mp h).elim (ha w) (hb w)
theorem goodIn_ca {big a b : List Cond} {c : Cond} (ha : GoodIn big (c :: a)) (hb : GoodIn big b) : GoodIn big (c :: (a ++ b)) := fun w h => (List.mem_cons.mp h).elim (fun e => ha w (List.mem_cons.mpr (Or.inl e))) (fun h => (List.mem_append.mp h).elim (fun h => ha w (List.mem_cons.mpr (Or.inr h))) (hb w))
theorem goodIn_sub {big ws : List Cond} (hm : ∀ w ∈ ws, w ∈ big) (h : ws.all goodWord = true) : GoodIn big ws := fun w hw => ⟨hm w hw, good_of_word (List.all_eq_true.mp h w hw)⟩
/-! ===== END ===== -/

/-! ===== BEGIN printed: names, fields, word lists, decode rows ===== -/
def RX0 : String := "GustHome$Calendar"
def TX0 : u_T := fun k => match k with
  | 0 => ("GustHome$Calendar", "wards", "[LGustHome$Ward;", true)
  | 1 => ("GustHome$Calendar", "judge", "LGustHome$Judge;", true)
  | 2 => ("GustHome$Calendar", "school", "LGustHome$School;", true)
  | 3 => ("GustHome$Calendar", "learnt", "I", false)
  | 4 => ("GustHome$Calendar", "fellIll", "I", false)
  | 5 => ("GustHome$Calendar", "badMonths", "I", false)
  | 6 => ("GustHome$Calendar", "badRule", "I", false)
  | _ => ("GustHome$Calendar", "badWard", "I", false)
def tyX0 : Nat → FieldType := fun k => match k with
  | 0 => .array (.object "GustHome$Ward")
  | 1 => .object "GustHome$Judge"
  | 2 => .object "GustHome$School"
  | 3 => .int
  | 4 => .int
  | 5 => .int
  | 6 => .int
  | _ => .int
abbrev wsX00 : List Cond := u_ws RX0 TX0 8
theorem nmX0 : ∀ a, a < 8 → ∀ b, b < 8 → a ≠ b → (TX0 a).2.1 ≠ (TX0 b).2.1 := by decide +kernel
theorem tyX0_ok : ∀ k, k < 8 → parseFieldDescriptor (TX0 k).2.2.1 = some (tyX0 k) := by decide +kernel
abbrev cX0_init : ByteArray := prog_2_method_1_code
def yX0_init : MethodName := ⟨RX0, "<init>", "([LGustHome$Ward;LGustHome$Judge;LGustHome$School;)V"⟩
abbrev cX0_go : ByteArray := prog_2_method_2_code
def yX0_go : MethodName := ⟨RX0, "go", "(LGustHome$State;I)V"⟩
abbrev cX0_pass : ByteArray := prog_2_method_3_code
def yX0_pass : MethodName := ⟨RX0, "pass", "(LGustHome$State;)V"⟩
abbrev cX0_weaken : ByteArray := prog_2_method_4_code
def yX0_weaken : MethodName := ⟨RX0, "weaken", "(LGustHome$State;)V"⟩
abbrev cX0_strengthen : ByteArray := prog_2_method_5_code
def yX0_strengthen : MethodName := ⟨RX0, "strengthen", "(LGustHome$State;II)V"⟩
abbrev cX0_teach : ByteArray := prog_2_method_6_code
def yX0_teach : MethodName := ⟨RX0, "teach", "(LGustHome$State;II)V"⟩
abbrev cX0_breakToys : ByteArray := prog_2_method_7_code
def yX0_breakToys : MethodName := ⟨RX0, "breakToys", "(LGustHome$State;)V"⟩
abbrev cX0_quarrelAll : ByteArray := prog_2_method_8_code
def yX0_quarrelAll : MethodName := ⟨RX0, "quarrelAll", "(LGustHome$State;)V"⟩
abbrev cX0_recover : ByteArray := prog_2_method_9_code
def yX0_recover : MethodName := ⟨RX0, "recover", "(LGustHome$State;)V"⟩
abbrev cX0_sicken : ByteArray := prog_2_method_10_code
def yX0_sicken : MethodName := ⟨RX0, "sicken", "(LGustHome$State;II)V"⟩
abbrev cX0_askRules : ByteArray := prog_2_method_11_code
def yX0_askRules : MethodName := ⟨RX0, "askRules", "(LGustHome$State;)V"⟩
def RX1 : String := "GustHome$Code"
def TX1 : u_T := fun k => match k with
  | 0 => ("GustHome$Code", "step", "[I", true)
  | 1 => ("GustHome$Code", "with", "[I", true)
  | 2 => ("GustHome$Code", "stack", "[I", true)
  | 3 => ("GustHome$Code", "letter", "[I", true)
  | 4 => ("GustHome$Code", "amountAt", "[I", true)
  | 5 => ("GustHome$Code", "conditionAt", "[I", true)
  | 6 => ("GustHome$Code", "size", "I", false)
  | _ => ("GustHome$Code", "clauses", "I", false)
def tyX1 : Nat → FieldType := fun k => match k with
  | 0 => .array .int
  | 1 => .array .int
  | 2 => .array .int
  | 3 => .array .int
  | 4 => .array .int
  | 5 => .array .int
  | 6 => .int
  | _ => .int
abbrev wsX10 : List Cond := u_ws RX1 TX1 8
theorem nmX1 : ∀ a, a < 8 → ∀ b, b < 8 → a ≠ b → (TX1 a).2.1 ≠ (TX1 b).2.1 := by decide +kernel
theorem tyX1_ok : ∀ k, k < 8 → parseFieldDescriptor (TX1 k).2.2.1 = some (tyX1 k) := by decide +kernel
abbrev cX1_init : ByteArray := prog_3_method_1_code
def yX1_init : MethodName := ⟨RX1, "<init>", "()V"⟩
abbrev cX1_clear : ByteArray := prog_3_method_2_code
def yX1_clear : MethodName := ⟨RX1, "clear", "()V"⟩
abbrev cX1_openClause : ByteArray := prog_3_method_3_code
def yX1_openClause : MethodName := ⟨RX1, "openClause", "(I)V"⟩
abbrev cX1_openCondition : ByteArray := prog_3_method_4_code
def yX1_openCondition : MethodName := ⟨RX1, "openCondition", "()V"⟩
abbrev cX1_closeClause : ByteArray := prog_3_method_5_code
def yX1_closeClause : MethodName := ⟨RX1, "closeClause", "()V"⟩
abbrev cX1_put : ByteArray := prog_3_method_6_code
def yX1_put : MethodName := ⟨RX1, "put", "(II)I"⟩
abbrev cX1_land : ByteArray := prog_3_method_7_code
def yX1_land : MethodName := ⟨RX1, "land", "(I)V"⟩
abbrev cX1_run : ByteArray := prog_3_method_8_code
def yX1_run : MethodName := ⟨RX1, "run", "(I[I)I"⟩
abbrev cX1_valueAt : ByteArray := prog_3_method_9_code
def yX1_valueAt : MethodName := ⟨RX1, "valueAt", "([II)I"⟩
abbrev cX1_join : ByteArray := prog_3_method_10_code
def yX1_join : MethodName := ⟨RX1, "join", "(III)I"⟩
def RX2 : String := "GustHome$Houses"
def TX2 : u_T := fun k => match k with
  | 0 => ("GustHome$Houses", "told", "I", false)
  | 1 => ("GustHome$Houses", "rise", "[I", true)
  | 2 => ("GustHome$Houses", "wanted", "[I", true)
  | 3 => ("GustHome$Houses", "houseOf", "[I", true)
  | _ => ("GustHome$Houses", "gustIn", "[I", true)
def tyX2 : Nat → FieldType := fun k => match k with
  | 0 => .int
  | 1 => .array .int
  | 2 => .array .int
  | 3 => .array .int
  | _ => .array .int
abbrev wsX20 : List Cond := u_ws RX2 TX2 5
theorem nmX2 : ∀ a, a < 5 → ∀ b, b < 5 → a ≠ b → (TX2 a).2.1 ≠ (TX2 b).2.1 := by decide +kernel
theorem tyX2_ok : ∀ k, k < 5 → parseFieldDescriptor (TX2 k).2.2.1 = some (tyX2 k) := by decide +kernel
abbrev cX2_init : ByteArray := prog_4_method_1_code
def yX2_init : MethodName := ⟨RX2, "<init>", "()V"⟩
abbrev cX2_keeperOf : ByteArray := prog_4_method_2_code
def yX2_keeperOf : MethodName := ⟨RX2, "keeperOf", "(LGustHome$State;II)I"⟩
abbrev cX2_readRow : ByteArray := prog_4_method_3_code
def yX2_readRow : MethodName := ⟨RX2, "readRow", "(LGustHome$Tape;I)Z"⟩
abbrev cX2_envious : ByteArray := prog_4_method_4_code
def yX2_envious : MethodName := ⟨RX2, "envious", "(LGustHome$State;I)I"⟩
abbrev cX2_highest : ByteArray := prog_4_method_5_code
def yX2_highest : MethodName := ⟨RX2, "highest", "(I)I"⟩
abbrev cX2_dearest : ByteArray := prog_4_method_6_code
def yX2_dearest : MethodName := ⟨RX2, "dearest", "(LGustHome$State;II)I"⟩
abbrev cX2_higher : ByteArray := prog_4_method_7_code
def yX2_higher : MethodName := ⟨RX2, "higher", "(II)Z"⟩
abbrev cX2_dearer : ByteArray := prog_4_method_8_code
def yX2_dearer : MethodName := ⟨RX2, "dearer", "(LGustHome$State;III)Z"⟩
def RX3 : String := "GustHome$Judge"
def TX3 : u_T := fun k => match k with
  | 0 => ("GustHome$Judge", "wards", "[LGustHome$Ward;", true)
  | 1 => ("GustHome$Judge", "values", "[I", true)
  | 2 => ("GustHome$Judge", "laid", "LGustHome$Code;", false)
  | _ => ("GustHome$Judge", "rulebook", "LGustHome$Code;", false)
def tyX3 : Nat → FieldType := fun k => match k with
  | 0 => .array (.object "GustHome$Ward")
  | 1 => .array .int
  | 2 => .object "GustHome$Code"
  | _ => .object "GustHome$Code"
abbrev wsX30 : List Cond := u_ws RX3 TX3 4
theorem nmX3 : ∀ a, a < 4 → ∀ b, b < 4 → a ≠ b → (TX3 a).2.1 ≠ (TX3 b).2.1 := by decide +kernel
theorem tyX3_ok : ∀ k, k < 4 → parseFieldDescriptor (TX3 k).2.2.1 = some (tyX3 k) := by decide +kernel
abbrev cX3_init : ByteArray := prog_5_method_1_code
def yX3_init : MethodName := ⟨RX3, "<init>", "([LGustHome$Ward;)V"⟩
abbrev cX3_exchangeLaw : ByteArray := prog_5_method_2_code
def yX3_exchangeLaw : MethodName := ⟨RX3, "exchangeLaw", "(LGustHome$Code;)LGustHome$Code;"⟩
abbrev cX3_exchangeRules : ByteArray := prog_5_method_3_code
def yX3_exchangeRules : MethodName := ⟨RX3, "exchangeRules", "(LGustHome$Code;)LGustHome$Code;"⟩
abbrev cX3_clauses : ByteArray := prog_5_method_4_code
def yX3_clauses : MethodName := ⟨RX3, "clauses", "()I"⟩
abbrev cX3_ruleCount : ByteArray := prog_5_method_5_code
def yX3_ruleCount : MethodName := ⟨RX3, "ruleCount", "()I"⟩
abbrev cX3_ofGust : ByteArray := prog_5_method_6_code
def yX3_ofGust : MethodName := ⟨RX3, "ofGust", "(LGustHome$State;II)I"⟩
abbrev cX3_learns : ByteArray := prog_5_method_7_code
def yX3_learns : MethodName := ⟨RX3, "learns", "(LGustHome$State;II)Z"⟩
abbrev cX3_atOdds : ByteArray := prog_5_method_8_code
def yX3_atOdds : MethodName := ⟨RX3, "atOdds", "(LGustHome$State;II)Z"⟩
abbrev cX3_illness : ByteArray := prog_5_method_9_code
def yX3_illness : MethodName := ⟨RX3, "illness", "(LGustHome$State;II)I"⟩
abbrev cX3_firstBroken : ByteArray := prog_5_method_10_code
def yX3_firstBroken : MethodName := ⟨RX3, "firstBroken", "(LGustHome$State;I)I"⟩
abbrev cX3_lookAtGust : ByteArray := prog_5_method_11_code
def yX3_lookAtGust : MethodName := ⟨RX3, "lookAtGust", "(LGustHome$State;I)V"⟩
abbrev cX3_lookAtTwo : ByteArray := prog_5_method_12_code
def yX3_lookAtTwo : MethodName := ⟨RX3, "lookAtTwo", "(LGustHome$State;II)V"⟩
abbrev cX3_lookAtWard : ByteArray := prog_5_method_13_code
def yX3_lookAtWard : MethodName := ⟨RX3, "lookAtWard", "(LGustHome$State;I)V"⟩
abbrev cX3_firstAmount : ByteArray := prog_5_method_14_code
def yX3_firstAmount : MethodName := ⟨RX3, "firstAmount", "(II)I"⟩
abbrev cX3_anyHolds : ByteArray := prog_5_method_15_code
def yX3_anyHolds : MethodName := ⟨RX3, "anyHolds", "(I)Z"⟩
def RX4 : String := "GustHome$Planner"
def TX4 : u_T := fun k => match k with
  | 0 => ("GustHome$Planner", "wards", "[LGustHome$Ward;", true)
  | 1 => ("GustHome$Planner", "judge", "LGustHome$Judge;", true)
  | 2 => ("GustHome$Planner", "seekers", "[I", true)
  | 3 => ("GustHome$Planner", "choices", "[I", true)
  | 4 => ("GustHome$Planner", "size", "I", false)
  | 5 => ("GustHome$Planner", "choiceCount", "I", false)
  | 6 => ("GustHome$Planner", "odds", "[I", true)
  | 7 => ("GustHome$Planner", "space", "[I", true)
  | 8 => ("GustHome$Planner", "members", "[I", true)
  | 9 => ("GustHome$Planner", "cost", "[I", true)
  | 10 => ("GustHome$Planner", "row", "[I", true)
  | 11 => ("GustHome$Planner", "bestRow", "[I", true)
  | 12 => ("GustHome$Planner", "best", "I", false)
  | _ => ("GustHome$Planner", "ways", "[I", true)
def tyX4 : Nat → FieldType := fun k => match k with
  | 0 => .array (.object "GustHome$Ward")
  | 1 => .object "GustHome$Judge"
  | 2 => .array .int
  | 3 => .array .int
  | 4 => .int
  | 5 => .int
  | 6 => .array .int
  | 7 => .array .int
  | 8 => .array .int
  | 9 => .array .int
  | 10 => .array .int
  | 11 => .array .int
  | 12 => .int
  | _ => .array .int
abbrev wsX40 : List Cond := u_ws RX4 TX4 14
theorem nmX4 : ∀ a, a < 14 → ∀ b, b < 14 → a ≠ b → (TX4 a).2.1 ≠ (TX4 b).2.1 := by decide +kernel
theorem tyX4_ok : ∀ k, k < 14 → parseFieldDescriptor (TX4 k).2.2.1 = some (tyX4 k) := by decide +kernel
abbrev cX4_init : ByteArray := prog_6_method_1_code
def yX4_init : MethodName := ⟨RX4, "<init>", "([LGustHome$Ward;LGustHome$Judge;)V"⟩
abbrev cX4_lodge : ByteArray := prog_6_method_2_code
def yX4_lodge : MethodName := ⟨RX4, "lodge", "(LGustHome$State;II)Z"⟩
abbrev cX4_staff : ByteArray := prog_6_method_3_code
def yX4_staff : MethodName := ⟨RX4, "staff", "(LGustHome$State;II)V"⟩
abbrev cX4_chosenFor : ByteArray := prog_6_method_4_code
def yX4_chosenFor : MethodName := ⟨RX4, "chosenFor", "(II)I"⟩
abbrev cX4_ring : ByteArray := prog_6_method_5_code
def yX4_ring : MethodName := ⟨RX4, "ring", "(LGustHome$State;I)I"⟩
abbrev cX4_ringAt : ByteArray := prog_6_method_6_code
def yX4_ringAt : MethodName := ⟨RX4, "ringAt", "(I)I"⟩
abbrev cX4_spread : ByteArray := prog_6_method_7_code
def yX4_spread : MethodName := ⟨RX4, "spread", "(I[I)I"⟩
abbrev cX4_learnOdds : ByteArray := prog_6_method_8_code
def yX4_learnOdds : MethodName := ⟨RX4, "learnOdds", "(LGustHome$State;)V"⟩
abbrev cX4_lodgeFrom : ByteArray := prog_6_method_9_code
def yX4_lodgeFrom : MethodName := ⟨RX4, "lodgeFrom", "(II)V"⟩
abbrev cX4_staffFrom : ByteArray := prog_6_method_10_code
def yX4_staffFrom : MethodName := ⟨RX4, "staffFrom", "(III)V"⟩
abbrev cX4_keepRow : ByteArray := prog_6_method_11_code
def yX4_keepRow : MethodName := ⟨RX4, "keepRow", "(I)V"⟩
abbrev cX4_waysOn : ByteArray := prog_6_method_12_code
def yX4_waysOn : MethodName := ⟨RX4, "waysOn", "(III)I"⟩
abbrev cX4_walkFirst : ByteArray := prog_6_method_13_code
def yX4_walkFirst : MethodName := ⟨RX4, "walkFirst", "()V"⟩
abbrev cX4_firstOn : ByteArray := prog_6_method_14_code
def yX4_firstOn : MethodName := ⟨RX4, "firstOn", "(II)I"⟩
def RX5 : String := "GustHome$Reader"
def TX5 : u_T := fun k => match k with
  | 0 => ("GustHome$Reader", "tape", "LGustHome$Tape;", true)
  | 1 => ("GustHome$Reader", "draft", "LGustHome$Code;", false)
  | 2 => ("GustHome$Reader", "lessons", "[I", true)
  | 3 => ("GustHome$Reader", "months", "I", false)
  | 4 => ("GustHome$Reader", "at", "I", false)
  | 5 => ("GustHome$Reader", "end", "I", false)
  | _ => ("GustHome$Reader", "fault", "I", false)
def tyX5 : Nat → FieldType := fun k => match k with
  | 0 => .object "GustHome$Tape"
  | 1 => .object "GustHome$Code"
  | 2 => .array .int
  | 3 => .int
  | 4 => .int
  | 5 => .int
  | _ => .int
abbrev wsX50 : List Cond := u_ws RX5 TX5 7
theorem nmX5 : ∀ a, a < 7 → ∀ b, b < 7 → a ≠ b → (TX5 a).2.1 ≠ (TX5 b).2.1 := by decide +kernel
theorem tyX5_ok : ∀ k, k < 7 → parseFieldDescriptor (TX5 k).2.2.1 = some (tyX5 k) := by decide +kernel
abbrev cX5_init : ByteArray := prog_7_method_1_code
def yX5_init : MethodName := ⟨RX5, "<init>", "(LGustHome$Tape;)V"⟩
abbrev cX5_readText : ByteArray := prog_7_method_2_code
def yX5_readText : MethodName := ⟨RX5, "readText", "(IZ)I"⟩
abbrev cX5_readTimetable : ByteArray := prog_7_method_3_code
def yX5_readTimetable : MethodName := ⟨RX5, "readTimetable", "(I)I"⟩
abbrev cX5_begin : ByteArray := prog_7_method_4_code
def yX5_begin : MethodName := ⟨RX5, "begin", "(I)V"⟩
abbrev cX5_here : ByteArray := prog_7_method_5_code
def yX5_here : MethodName := ⟨RX5, "here", "()I"⟩
abbrev cX5_fail : ByteArray := prog_7_method_6_code
def yX5_fail : MethodName := ⟨RX5, "fail", "(II)V"⟩
abbrev cX5_expect : ByteArray := prog_7_method_7_code
def yX5_expect : MethodName := ⟨RX5, "expect", "(I)V"⟩
abbrev cX5_opens : ByteArray := prog_7_method_8_code
def yX5_opens : MethodName := ⟨RX5, "opens", "(I)Z"⟩
abbrev cX5_readClause : ByteArray := prog_7_method_9_code
def yX5_readClause : MethodName := ⟨RX5, "readClause", "()V"⟩
abbrev cX5_readRule : ByteArray := prog_7_method_10_code
def yX5_readRule : MethodName := ⟨RX5, "readRule", "()V"⟩
abbrev cX5_readWhole : ByteArray := prog_7_method_11_code
def yX5_readWhole : MethodName := ⟨RX5, "readWhole", "()V"⟩
abbrev cX5_readBracket : ByteArray := prog_7_method_12_code
def yX5_readBracket : MethodName := ⟨RX5, "readBracket", "(I)V"⟩
abbrev cX5_readCondition : ByteArray := prog_7_method_13_code
def yX5_readCondition : MethodName := ⟨RX5, "readCondition", "(I)V"⟩
abbrev cX5_readPart : ByteArray := prog_7_method_14_code
def yX5_readPart : MethodName := ⟨RX5, "readPart", "(I)V"⟩
abbrev cX5_readTest : ByteArray := prog_7_method_15_code
def yX5_readTest : MethodName := ⟨RX5, "readTest", "(I)V"⟩
abbrev cX5_readSum : ByteArray := prog_7_method_16_code
def yX5_readSum : MethodName := ⟨RX5, "readSum", "(I)V"⟩
abbrev cX5_readTerm : ByteArray := prog_7_method_17_code
def yX5_readTerm : MethodName := ⟨RX5, "readTerm", "(I)V"⟩
abbrev cX5_readFactor : ByteArray := prog_7_method_18_code
def yX5_readFactor : MethodName := ⟨RX5, "readFactor", "(I)V"⟩
abbrev cX5_readNumber : ByteArray := prog_7_method_19_code
def yX5_readNumber : MethodName := ⟨RX5, "readNumber", "()V"⟩
abbrev cX5_readMonths : ByteArray := prog_7_method_20_code
def yX5_readMonths : MethodName := ⟨RX5, "readMonths", "(I)V"⟩
abbrev cX5_readMonth : ByteArray := prog_7_method_21_code
def yX5_readMonth : MethodName := ⟨RX5, "readMonth", "(I)V"⟩
abbrev cX5_readGroup : ByteArray := prog_7_method_22_code
def yX5_readGroup : MethodName := ⟨RX5, "readGroup", "(I)V"⟩
abbrev cX5_writeMonth : ByteArray := prog_7_method_23_code
def yX5_writeMonth : MethodName := ⟨RX5, "writeMonth", "(I)V"⟩
abbrev cX5_repeat : ByteArray := prog_7_method_24_code
def yX5_repeat : MethodName := ⟨RX5, "repeat", "(III)V"⟩
def RX6 : String := "GustHome$School"
def TX6 : u_T := fun k => match k with
  | 0 => ("GustHome$School", "needed", "[I", true)
  | _ => ("GustHome$School", "row", "[I", true)
def tyX6 : Nat → FieldType := fun k => match k with
  | 0 => .array .int
  | _ => .array .int
abbrev wsX60 : List Cond := u_ws RX6 TX6 2
theorem nmX6 : ∀ a, a < 2 → ∀ b, b < 2 → a ≠ b → (TX6 a).2.1 ≠ (TX6 b).2.1 := by decide +kernel
theorem tyX6_ok : ∀ k, k < 2 → parseFieldDescriptor (TX6 k).2.2.1 = some (tyX6 k) := by decide +kernel
abbrev cX6_init : ByteArray := prog_8_method_1_code
def yX6_init : MethodName := ⟨RX6, "<init>", "()V"⟩
abbrev cX6_order : ByteArray := prog_8_method_2_code
def yX6_order : MethodName := ⟨RX6, "order", "(II)I"⟩
abbrev cX6_withNeeds : ByteArray := prog_8_method_3_code
def yX6_withNeeds : MethodName := ⟨RX6, "withNeeds", "(II)I"⟩
abbrev cX6_lowestReady : ByteArray := prog_8_method_4_code
def yX6_lowestReady : MethodName := ⟨RX6, "lowestReady", "(II)I"⟩
def RX7 : String := "GustHome$State"
def TX7 : u_T := fun k => match k with
  | 0 => ("GustHome$State", "told", "I", false)
  | 1 => ("GustHome$State", "strength", "[I", true)
  | 2 => ("GustHome$State", "quarter", "[I", true)
  | 3 => ("GustHome$State", "temper", "[I", true)
  | 4 => ("GustHome$State", "ward", "[I", true)
  | 5 => ("GustHome$State", "gale", "[I", true)
  | 6 => ("GustHome$State", "habits", "[I", true)
  | 7 => ("GustHome$State", "nursesTold", "I", false)
  | 8 => ("GustHome$State", "asthma", "[I", true)
  | 9 => ("GustHome$State", "ill", "[I", true)
  | 10 => ("GustHome$State", "place", "[I", true)
  | 11 => ("GustHome$State", "month", "I", false)
  | 12 => ("GustHome$State", "toys", "I", false)
  | 13 => ("GustHome$State", "whistles", "I", false)
  | _ => ("GustHome$State", "x", "I", false)
def tyX7 : Nat → FieldType := fun k => match k with
  | 0 => .int
  | 1 => .array .int
  | 2 => .array .int
  | 3 => .array .int
  | 4 => .array .int
  | 5 => .array .int
  | 6 => .array .int
  | 7 => .int
  | 8 => .array .int
  | 9 => .array .int
  | 10 => .array .int
  | 11 => .int
  | 12 => .int
  | 13 => .int
  | _ => .int
abbrev wsX70 : List Cond := u_ws RX7 TX7 15
theorem nmX7 : ∀ a, a < 15 → ∀ b, b < 15 → a ≠ b → (TX7 a).2.1 ≠ (TX7 b).2.1 := by decide +kernel
theorem tyX7_ok : ∀ k, k < 15 → parseFieldDescriptor (TX7 k).2.2.1 = some (tyX7 k) := by decide +kernel
abbrev cX7_init : ByteArray := prog_9_method_1_code
def yX7_init : MethodName := ⟨RX7, "<init>", "()V"⟩
abbrev cX7_hasGust : ByteArray := prog_9_method_2_code
def yX7_hasGust : MethodName := ⟨RX7, "hasGust", "(I)Z"⟩
abbrev cX7_hasNurse : ByteArray := prog_9_method_3_code
def yX7_hasNurse : MethodName := ⟨RX7, "hasNurse", "(I)Z"⟩
abbrev cX7_works : ByteArray := prog_9_method_4_code
def yX7_works : MethodName := ⟨RX7, "works", "(I)Z"⟩
abbrev cX7_inWard : ByteArray := prog_9_method_5_code
def yX7_inWard : MethodName := ⟨RX7, "inWard", "(I)I"⟩
abbrev cX7_draw : ByteArray := prog_9_method_6_code
def yX7_draw : MethodName := ⟨RX7, "draw", "()I"⟩
abbrev cX7_copy : ByteArray := prog_9_method_7_code
def yX7_copy : MethodName := ⟨RX7, "copy", "(LGustHome$State;)V"⟩
def RX8 : String := "GustHome$Tape"
def TX8 : u_T := fun k => match k with
  | 0 => ("GustHome$Tape", "bytes", "[I", true)
  | _ => ("GustHome$Tape", "size", "I", false)
def tyX8 : Nat → FieldType := fun k => match k with
  | 0 => .array .int
  | _ => .int
abbrev wsX80 : List Cond := u_ws RX8 TX8 2
theorem nmX8 : ∀ a, a < 2 → ∀ b, b < 2 → a ≠ b → (TX8 a).2.1 ≠ (TX8 b).2.1 := by decide +kernel
theorem tyX8_ok : ∀ k, k < 2 → parseFieldDescriptor (TX8 k).2.2.1 = some (tyX8 k) := by decide +kernel
abbrev cX8_init : ByteArray := prog_10_method_1_code
def yX8_init : MethodName := ⟨RX8, "<init>", "()V"⟩
abbrev cX8_takes : ByteArray := prog_10_method_2_code
def yX8_takes : MethodName := ⟨RX8, "takes", "(I)Z"⟩
abbrev cX8_append : ByteArray := prog_10_method_3_code
def yX8_append : MethodName := ⟨RX8, "append", "(I)V"⟩
abbrev cX8_at : ByteArray := prog_10_method_4_code
def yX8_at : MethodName := ⟨RX8, "at", "(I)I"⟩
abbrev cX8_empty : ByteArray := prog_10_method_5_code
def yX8_empty : MethodName := ⟨RX8, "empty", "()V"⟩
def RX9 : String := "GustHome$Ward"
def TX9 : u_T := fun k => match k with
  | 0 => ("GustHome$Ward", "lessons", "[I", true)
  | 1 => ("GustHome$Ward", "length", "I", false)
  | 2 => ("GustHome$Ward", "room", "I", false)
  | 3 => ("GustHome$Ward", "dust", "I", false)
  | _ => ("GustHome$Ward", "nurse", "I", false)
def tyX9 : Nat → FieldType := fun k => match k with
  | 0 => .array .int
  | 1 => .int
  | 2 => .int
  | 3 => .int
  | _ => .int
abbrev wsX90 : List Cond := u_ws RX9 TX9 5
theorem nmX9 : ∀ a, a < 5 → ∀ b, b < 5 → a ≠ b → (TX9 a).2.1 ≠ (TX9 b).2.1 := by decide +kernel
theorem tyX9_ok : ∀ k, k < 5 → parseFieldDescriptor (TX9 k).2.2.1 = some (tyX9 k) := by decide +kernel
abbrev cX9_init : ByteArray := prog_11_method_1_code
def yX9_init : MethodName := ⟨RX9, "<init>", "()V"⟩
abbrev cX9_learnFrom : ByteArray := prog_11_method_2_code
def yX9_learnFrom : MethodName := ⟨RX9, "learnFrom", "([II)V"⟩
abbrev cX9_lessonAt : ByteArray := prog_11_method_3_code
def yX9_lessonAt : MethodName := ⟨RX9, "lessonAt", "(I)I"⟩
abbrev cX9_placeAfter : ByteArray := prog_11_method_4_code
def yX9_placeAfter : MethodName := ⟨RX9, "placeAfter", "(I)I"⟩
def RX10 : String := "GustHome$Winds"
def TX10 : u_T := fun k => match k with
  | 0 => ("GustHome$Winds", "told", "I", false)
  | 1 => ("GustHome$Winds", "quarter", "[I", true)
  | 2 => ("GustHome$Winds", "limit", "[I", true)
  | 3 => ("GustHome$Winds", "load", "[I", true)
  | 4 => ("GustHome$Winds", "who", "[I", true)
  | 5 => ("GustHome$Winds", "size", "I", false)
  | 6 => ("GustHome$Winds", "strengthFrom", "[I", true)
  | 7 => ("GustHome$Winds", "row", "[I", true)
  | 8 => ("GustHome$Winds", "bestRow", "[I", true)
  | 9 => ("GustHome$Winds", "mostGo", "I", false)
  | _ => ("GustHome$Winds", "mostStrength", "I", false)
def tyX10 : Nat → FieldType := fun k => match k with
  | 0 => .int
  | 1 => .array .int
  | 2 => .array .int
  | 3 => .array .int
  | 4 => .array .int
  | 5 => .int
  | 6 => .array .int
  | 7 => .array .int
  | 8 => .array .int
  | 9 => .int
  | _ => .int
abbrev wsX100 : List Cond := u_ws RX10 TX10 11
theorem nmX10 : ∀ a, a < 11 → ∀ b, b < 11 → a ≠ b → (TX10 a).2.1 ≠ (TX10 b).2.1 := by decide +kernel
theorem tyX10_ok : ∀ k, k < 11 → parseFieldDescriptor (TX10 k).2.2.1 = some (tyX10 k) := by decide +kernel
abbrev cX10_init : ByteArray := prog_12_method_1_code
def yX10_init : MethodName := ⟨RX10, "<init>", "()V"⟩
abbrev cX10_sendOff : ByteArray := prog_12_method_2_code
def yX10_sendOff : MethodName := ⟨RX10, "sendOff", "(LGustHome$State;I)V"⟩
abbrev cX10_windOf : ByteArray := prog_12_method_3_code
def yX10_windOf : MethodName := ⟨RX10, "windOf", "(II)I"⟩
abbrev cX10_sendFrom : ByteArray := prog_12_method_4_code
def yX10_sendFrom : MethodName := ⟨RX10, "sendFrom", "(LGustHome$State;III)V"⟩
abbrev cX10_mayBeat : ByteArray := prog_12_method_5_code
def yX10_mayBeat : MethodName := ⟨RX10, "mayBeat", "(II)Z"⟩
abbrev cX10_windOfGale : ByteArray := prog_12_method_6_code
def yX10_windOfGale : MethodName := ⟨RX10, "windOfGale", "(LGustHome$State;I)I"⟩
abbrev cX10_carries : ByteArray := prog_12_method_7_code
def yX10_carries : MethodName := ⟨RX10, "carries", "(LGustHome$State;II)Z"⟩
def RX11 : String := "GustHome"
def TX11 : u_T := fun k => match k with
  | 0 => ("GustHome", "tape", "LGustHome$Tape;", true)
  | 1 => ("GustHome", "reader", "LGustHome$Reader;", true)
  | 2 => ("GustHome", "wards", "[LGustHome$Ward;", true)
  | 3 => ("GustHome", "judge", "LGustHome$Judge;", true)
  | 4 => ("GustHome", "calendar", "LGustHome$Calendar;", true)
  | 5 => ("GustHome", "planner", "LGustHome$Planner;", true)
  | 6 => ("GustHome", "winds", "LGustHome$Winds;", true)
  | 7 => ("GustHome", "houses", "LGustHome$Houses;", true)
  | 8 => ("GustHome", "school", "LGustHome$School;", true)
  | 9 => ("GustHome", "now", "LGustHome$State;", true)
  | 10 => ("GustHome", "kept", "LGustHome$State;", true)
  | 11 => ("GustHome", "trial", "LGustHome$State;", true)
  | 12 => ("GustHome", "homeHabits", "[I", true)
  | 13 => ("GustHome", "homesTold", "I", false)
  | _ => ("GustHome", "anyKept", "Z", false)
def tyX11 : Nat → FieldType := fun k => match k with
  | 0 => .object "GustHome$Tape"
  | 1 => .object "GustHome$Reader"
  | 2 => .array (.object "GustHome$Ward")
  | 3 => .object "GustHome$Judge"
  | 4 => .object "GustHome$Calendar"
  | 5 => .object "GustHome$Planner"
  | 6 => .object "GustHome$Winds"
  | 7 => .object "GustHome$Houses"
  | 8 => .object "GustHome$School"
  | 9 => .object "GustHome$State"
  | 10 => .object "GustHome$State"
  | 11 => .object "GustHome$State"
  | 12 => .array .int
  | 13 => .int
  | _ => .boolean
abbrev wsX110 : List Cond := u_ws RX11 TX11 15
theorem nmX11 : ∀ a, a < 15 → ∀ b, b < 15 → a ≠ b → (TX11 a).2.1 ≠ (TX11 b).2.1 := by decide +kernel
theorem tyX11_ok : ∀ k, k < 15 → parseFieldDescriptor (TX11 k).2.2.1 = some (tyX11 k) := by decide +kernel
abbrev cX11_init : ByteArray := prog_1_method_1_code
def yX11_init : MethodName := ⟨RX11, "<init>", "()V"⟩
abbrev cX11_gust : ByteArray := prog_1_method_2_code
def yX11_gust : MethodName := ⟨RX11, "gust", "(IIIII)Z"⟩
abbrev cX11_name : ByteArray := prog_1_method_3_code
def yX11_name : MethodName := ⟨RX11, "name", "(II)Z"⟩
abbrev cX11_moves : ByteArray := prog_1_method_4_code
def yX11_moves : MethodName := ⟨RX11, "moves", "(II)Z"⟩
abbrev cX11_habit : ByteArray := prog_1_method_5_code
def yX11_habit : MethodName := ⟨RX11, "habit", "(IIZ)Z"⟩
abbrev cX11_ward : ByteArray := prog_1_method_6_code
def yX11_ward : MethodName := ⟨RX11, "ward", "(IIII)Z"⟩
abbrev cX11_nurse : ByteArray := prog_1_method_7_code
def yX11_nurse : MethodName := ⟨RX11, "nurse", "(II)Z"⟩
abbrev cX11_needs : ByteArray := prog_1_method_8_code
def yX11_needs : MethodName := ⟨RX11, "needs", "(II)Z"⟩
abbrev cX11_wind : ByteArray := prog_1_method_9_code
def yX11_wind : MethodName := ⟨RX11, "wind", "(III)Z"⟩
abbrev cX11_home : ByteArray := prog_1_method_10_code
def yX11_home : MethodName := ⟨RX11, "home", "(II)Z"⟩
abbrev cX11_house : ByteArray := prog_1_method_11_code
def yX11_house : MethodName := ⟨RX11, "house", "(III)Z"⟩
abbrev cX11_seed : ByteArray := prog_1_method_12_code
def yX11_seed : MethodName := ⟨RX11, "seed", "(I)Z"⟩
abbrev cX11_feed : ByteArray := prog_1_method_13_code
def yX11_feed : MethodName := ⟨RX11, "feed", "(IIIII)I"⟩
abbrev cX11_law : ByteArray := prog_1_method_14_code
def yX11_law : MethodName := ⟨RX11, "law", "(I)I"⟩
abbrev cX11_rules : ByteArray := prog_1_method_15_code
def yX11_rules : MethodName := ⟨RX11, "rules", "(I)I"⟩
abbrev cX11_timetable : ByteArray := prog_1_method_16_code
def yX11_timetable : MethodName := ⟨RX11, "timetable", "(II)I"⟩
abbrev cX11_months : ByteArray := prog_1_method_17_code
def yX11_months : MethodName := ⟨RX11, "months", "(I)I"⟩
abbrev cX11_tried : ByteArray := prog_1_method_18_code
def yX11_tried : MethodName := ⟨RX11, "tried", "(II)I"⟩
abbrev cX11_gustIs : ByteArray := prog_1_method_19_code
def yX11_gustIs : MethodName := ⟨RX11, "gustIs", "(II)I"⟩
abbrev cX11_wardIs : ByteArray := prog_1_method_20_code
def yX11_wardIs : MethodName := ⟨RX11, "wardIs", "(II)I"⟩
abbrev cX11_nurseIs : ByteArray := prog_1_method_21_code
def yX11_nurseIs : MethodName := ⟨RX11, "nurseIs", "(II)I"⟩
abbrev cX11_quarrel : ByteArray := prog_1_method_22_code
def yX11_quarrel : MethodName := ⟨RX11, "quarrel", "(II)I"⟩
abbrev cX11_count : ByteArray := prog_1_method_23_code
def yX11_count : MethodName := ⟨RX11, "count", "(I)I"⟩
abbrev cX11_added : ByteArray := prog_1_method_24_code
def yX11_added : MethodName := ⟨RX11, "added", "(II)I"⟩
abbrev cX11_housed : ByteArray := prog_1_method_25_code
def yX11_housed : MethodName := ⟨RX11, "housed", "(III)I"⟩
abbrev cX11_leaving : ByteArray := prog_1_method_26_code
def yX11_leaving : MethodName := ⟨RX11, "leaving", "(II)I"⟩
abbrev cX11_letGo : ByteArray := prog_1_method_27_code
def yX11_letGo : MethodName := ⟨RX11, "letGo", "(I)I"⟩
abbrev cX11_from : ByteArray := prog_1_method_28_code
def yX11_from : MethodName := ⟨RX11, "from", "(III)I"⟩
abbrev cX11_taught : ByteArray := prog_1_method_29_code
def yX11_taught : MethodName := ⟨RX11, "taught", "(III)I"⟩
abbrev cX11_placed : ByteArray := prog_1_method_30_code
def yX11_placed : MethodName := ⟨RX11, "placed", "(II)I"⟩
abbrev cX11_fair : ByteArray := prog_1_method_31_code
def yX11_fair : MethodName := ⟨RX11, "fair", "(I)I"⟩
abbrev cX11_escaped : ByteArray := prog_1_method_32_code
def yX11_escaped : MethodName := ⟨RX11, "escaped", "(IIII)I"⟩
abbrev cX11_nursed : ByteArray := prog_1_method_33_code
def yX11_nursed : MethodName := ⟨RX11, "nursed", "(III)I"⟩
abbrev cX11_round : ByteArray := prog_1_method_34_code
def yX11_round : MethodName := ⟨RX11, "round", "(II)I"⟩
abbrev cX11_keep : ByteArray := prog_1_method_35_code
def yX11_keep : MethodName := ⟨RX11, "keep", "()I"⟩
abbrev cX11_undo : ByteArray := prog_1_method_36_code
def yX11_undo : MethodName := ⟨RX11, "undo", "()Z"⟩
abbrev cX11_check : ByteArray := prog_1_method_37_code
def yX11_check : MethodName := ⟨RX11, "check", "(I)I"⟩
abbrev cX11_within : ByteArray := prog_1_method_38_code
def yX11_within : MethodName := ⟨RX11, "within", "(II)Z"⟩
abbrev cX11_isIn : ByteArray := prog_1_method_39_code
def yX11_isIn : MethodName := ⟨RX11, "isIn", "(II)Z"⟩
abbrev cX11_placeIn : ByteArray := prog_1_method_40_code
def yX11_placeIn : MethodName := ⟨RX11, "placeIn", "(II)I"⟩
abbrev cX11_chosen : ByteArray := prog_1_method_41_code
def yX11_chosen : MethodName := ⟨RX11, "chosen", "(III)Z"⟩
abbrev cX11_wardAt : ByteArray := prog_1_method_42_code
def yX11_wardAt : MethodName := ⟨RX11, "wardAt", "(I)LGustHome$Ward;"⟩
abbrev cX11_northward : ByteArray := prog_1_method_43_code
def yX11_northward : MethodName := ⟨RX11, "northward", "(II)I"⟩
abbrev cX11_homesLike : ByteArray := prog_1_method_44_code
def yX11_homesLike : MethodName := ⟨RX11, "homesLike", "(II)I"⟩
abbrev cX11_mostTelling : ByteArray := prog_1_method_45_code
def yX11_mostTelling : MethodName := ⟨RX11, "mostTelling", "(II)I"⟩
abbrev cX11_homesWith : ByteArray := prog_1_method_46_code
def yX11_homesWith : MethodName := ⟨RX11, "homesWith", "(II)I"⟩
abbrev cX11_sought : ByteArray := prog_1_method_47_code
def yX11_sought : MethodName := ⟨RX11, "sought", "(IIII)I"⟩
abbrev cX11_sightingsStand : ByteArray := prog_1_method_48_code
def yX11_sightingsStand : MethodName := ⟨RX11, "sightingsStand", "(I)Z"⟩
abbrev cX11_sightingsAgree : ByteArray := prog_1_method_49_code
def yX11_sightingsAgree : MethodName := ⟨RX11, "sightingsAgree", "(II)Z"⟩
def RX12 : String := "GustHomeModel"
def TX12 : u_T := fun k => match k with
  | 0 => ("GustHomeModel", "tape", "[B", true)
  | 1 => ("GustHomeModel", "taped", "I", false)
  | 2 => ("GustHomeModel", "luck", "I", false)
  | 3 => ("GustHomeModel", "place", "I", false)
  | 4 => ("GustHomeModel", "end", "I", false)
  | 5 => ("GustHomeModel", "bad", "I", false)
  | 6 => ("GustHomeModel", "clauses", "I", false)
  | 7 => ("GustHomeModel", "codes", "I", false)
  | 8 => ("GustHomeModel", "open", "I", false)
  | 9 => ("GustHomeModel", "stacked", "I", false)
  | 10 => ("GustHomeModel", "clauseLetter", "[I", true)
  | 11 => ("GustHomeModel", "sumFrom", "[I", true)
  | 12 => ("GustHomeModel", "codeFrom", "[I", true)
  | 13 => ("GustHomeModel", "codeTo", "[I", true)
  | 14 => ("GustHomeModel", "code", "[I", true)
  | 15 => ("GustHomeModel", "codeArg", "[I", true)
  | 16 => ("GustHomeModel", "clauseMany", "I", false)
  | 17 => ("GustHomeModel", "ruleMany", "I", false)
  | 18 => ("GustHomeModel", "newLetter", "[I", true)
  | 19 => ("GustHomeModel", "newSum", "[I", true)
  | 20 => ("GustHomeModel", "newFrom", "[I", true)
  | 21 => ("GustHomeModel", "newTo", "[I", true)
  | 22 => ("GustHomeModel", "newCode", "[I", true)
  | 23 => ("GustHomeModel", "newArg", "[I", true)
  | 24 => ("GustHomeModel", "isOver", "Z", false)
  | 25 => ("GustHomeModel", "isBehind", "Z", false)
  | 26 => ("GustHomeModel", "stack", "[I", true)
  | 27 => ("GustHomeModel", "asStrength", "I", false)
  | 28 => ("GustHomeModel", "asQuarter", "I", false)
  | 29 => ("GustHomeModel", "asTemper", "I", false)
  | 30 => ("GustHomeModel", "asHabits", "I", false)
  | 31 => ("GustHomeModel", "asDust", "I", false)
  | 32 => ("GustHomeModel", "asWard", "I", false)
  | 33 => ("GustHomeModel", "asOther", "I", false)
  | 34 => ("GustHomeModel", "asOtherQuarter", "I", false)
  | 35 => ("GustHomeModel", "asLesson", "I", false)
  | 36 => ("GustHomeModel", "asAsthma", "I", false)
  | 37 => ("GustHomeModel", "asMany", "I", false)
  | 38 => ("GustHomeModel", "asTogether", "I", false)
  | 39 => ("GustHomeModel", "asToys", "I", false)
  | 40 => ("GustHomeModel", "asWhistles", "I", false)
  | 41 => ("GustHomeModel", "worths", "[I", true)
  | 42 => ("GustHomeModel", "isRefused", "[Z", true)
  | 43 => ("GustHomeModel", "isGust", "[Z", true)
  | 44 => ("GustHomeModel", "strengths", "[I", true)
  | 45 => ("GustHomeModel", "quarters", "[I", true)
  | 46 => ("GustHomeModel", "tempers", "[I", true)
  | 47 => ("GustHomeModel", "wardOf", "[I", true)
  | 48 => ("GustHomeModel", "galeOf", "[I", true)
  | 49 => ("GustHomeModel", "habitsOf", "[I", true)
  | 50 => ("GustHomeModel", "rooms", "[I", true)
  | 51 => ("GustHomeModel", "dusts", "[I", true)
  | 52 => ("GustHomeModel", "nurseOf", "[I", true)
  | 53 => ("GustHomeModel", "table", "[I", true)
  | 54 => ("GustHomeModel", "tableMany", "[I", true)
  | 55 => ("GustHomeModel", "tableAt", "[I", true)
  | 56 => ("GustHomeModel", "isNurse", "[Z", true)
  | 57 => ("GustHomeModel", "asthmas", "[I", true)
  | 58 => ("GustHomeModel", "ills", "[I", true)
  | 59 => ("GustHomeModel", "needOf", "[I", true)
  | 60 => ("GustHomeModel", "monthNow", "I", false)
  | 61 => ("GustHomeModel", "toysNow", "I", false)
  | 62 => ("GustHomeModel", "whistlesNow", "I", false)
  | 63 => ("GustHomeModel", "newTable", "[I", true)
  | 64 => ("GustHomeModel", "newMany", "I", false)
  | 65 => ("GustHomeModel", "openMany", "I", false)
  | 66 => ("GustHomeModel", "isBegun", "Z", false)
  | 67 => ("GustHomeModel", "openFrom", "[I", true)
  | 68 => ("GustHomeModel", "openTimes", "[I", true)
  | 69 => ("GustHomeModel", "openPlace", "[I", true)
  | 70 => ("GustHomeModel", "learnt", "I", false)
  | 71 => ("GustHomeModel", "toysThen", "I", false)
  | 72 => ("GustHomeModel", "whistlesThen", "I", false)
  | 73 => ("GustHomeModel", "fell", "I", false)
  | 74 => ("GustHomeModel", "broken", "I", false)
  | 75 => ("GustHomeModel", "firstRule", "I", false)
  | 76 => ("GustHomeModel", "firstWard", "I", false)
  | 77 => ("GustHomeModel", "asideGust", "[Z", true)
  | 78 => ("GustHomeModel", "asideStrength", "[I", true)
  | 79 => ("GustHomeModel", "asideQuarter", "[I", true)
  | 80 => ("GustHomeModel", "asideTemper", "[I", true)
  | 81 => ("GustHomeModel", "asideWard", "[I", true)
  | 82 => ("GustHomeModel", "asideGale", "[I", true)
  | 83 => ("GustHomeModel", "asideHabits", "[I", true)
  | 84 => ("GustHomeModel", "asideNurse", "[Z", true)
  | 85 => ("GustHomeModel", "asideAsthma", "[I", true)
  | 86 => ("GustHomeModel", "asideIll", "[I", true)
  | 87 => ("GustHomeModel", "asideAt", "[I", true)
  | 88 => ("GustHomeModel", "asideMonth", "[I", true)
  | 89 => ("GustHomeModel", "asideToys", "[I", true)
  | 90 => ("GustHomeModel", "asideWhistles", "[I", true)
  | 91 => ("GustHomeModel", "asideLuck", "[I", true)
  | 92 => ("GustHomeModel", "isKept", "Z", false)
  | 93 => ("GustHomeModel", "some", "[I", true)
  | 94 => ("GustHomeModel", "places", "[I", true)
  | 95 => ("GustHomeModel", "rowNow", "[I", true)
  | 96 => ("GustHomeModel", "bestRow", "[I", true)
  | 97 => ("GustHomeModel", "isWind", "[Z", true)
  | 98 => ("GustHomeModel", "windQuarter", "[I", true)
  | 99 => ("GustHomeModel", "windLimit", "[I", true)
  | 100 => ("GustHomeModel", "goneNow", "I", false)
  | 101 => ("GustHomeModel", "strongNow", "I", false)
  | 102 => ("GustHomeModel", "mostGone", "I", false)
  | 103 => ("GustHomeModel", "mostStrong", "I", false)
  | 104 => ("GustHomeModel", "isHome", "[Z", true)
  | 105 => ("GustHomeModel", "homeHabits", "[I", true)
  | 106 => ("GustHomeModel", "lessons", "[I", true)
  | 107 => ("GustHomeModel", "lessonMany", "I", false)
  | 108 => ("GustHomeModel", "isHouse", "[Z", true)
  | 109 => ("GustHomeModel", "rises", "[I", true)
  | 110 => ("GustHomeModel", "wanted", "[I", true)
  | 111 => ("GustHomeModel", "keptIn", "[I", true)
  | 112 => ("GustHomeModel", "askedAll", "[I", true)
  | 113 => ("GustHomeModel", "lowAhead", "[I", true)
  | 114 => ("GustHomeModel", "highAhead", "[I", true)
  | 115 => ("GustHomeModel", "lowBehind", "[I", true)
  | 116 => ("GustHomeModel", "highBehind", "[I", true)
  | 117 => ("GustHomeModel", "ringWays", "[I", true)
  | _ => ("GustHomeModel", "isPeace", "[Z", true)
def tyX12 : Nat → FieldType := fun k => match k with
  | 0 => .array .byte
  | 1 => .int
  | 2 => .int
  | 3 => .int
  | 4 => .int
  | 5 => .int
  | 6 => .int
  | 7 => .int
  | 8 => .int
  | 9 => .int
  | 10 => .array .int
  | 11 => .array .int
  | 12 => .array .int
  | 13 => .array .int
  | 14 => .array .int
  | 15 => .array .int
  | 16 => .int
  | 17 => .int
  | 18 => .array .int
  | 19 => .array .int
  | 20 => .array .int
  | 21 => .array .int
  | 22 => .array .int
  | 23 => .array .int
  | 24 => .boolean
  | 25 => .boolean
  | 26 => .array .int
  | 27 => .int
  | 28 => .int
  | 29 => .int
  | 30 => .int
  | 31 => .int
  | 32 => .int
  | 33 => .int
  | 34 => .int
  | 35 => .int
  | 36 => .int
  | 37 => .int
  | 38 => .int
  | 39 => .int
  | 40 => .int
  | 41 => .array .int
  | 42 => .array .boolean
  | 43 => .array .boolean
  | 44 => .array .int
  | 45 => .array .int
  | 46 => .array .int
  | 47 => .array .int
  | 48 => .array .int
  | 49 => .array .int
  | 50 => .array .int
  | 51 => .array .int
  | 52 => .array .int
  | 53 => .array .int
  | 54 => .array .int
  | 55 => .array .int
  | 56 => .array .boolean
  | 57 => .array .int
  | 58 => .array .int
  | 59 => .array .int
  | 60 => .int
  | 61 => .int
  | 62 => .int
  | 63 => .array .int
  | 64 => .int
  | 65 => .int
  | 66 => .boolean
  | 67 => .array .int
  | 68 => .array .int
  | 69 => .array .int
  | 70 => .int
  | 71 => .int
  | 72 => .int
  | 73 => .int
  | 74 => .int
  | 75 => .int
  | 76 => .int
  | 77 => .array .boolean
  | 78 => .array .int
  | 79 => .array .int
  | 80 => .array .int
  | 81 => .array .int
  | 82 => .array .int
  | 83 => .array .int
  | 84 => .array .boolean
  | 85 => .array .int
  | 86 => .array .int
  | 87 => .array .int
  | 88 => .array .int
  | 89 => .array .int
  | 90 => .array .int
  | 91 => .array .int
  | 92 => .boolean
  | 93 => .array .int
  | 94 => .array .int
  | 95 => .array .int
  | 96 => .array .int
  | 97 => .array .boolean
  | 98 => .array .int
  | 99 => .array .int
  | 100 => .int
  | 101 => .int
  | 102 => .int
  | 103 => .int
  | 104 => .array .boolean
  | 105 => .array .int
  | 106 => .array .int
  | 107 => .int
  | 108 => .array .boolean
  | 109 => .array .int
  | 110 => .array .int
  | 111 => .array .int
  | 112 => .array .int
  | 113 => .array .int
  | 114 => .array .int
  | 115 => .array .int
  | 116 => .array .int
  | 117 => .array .int
  | _ => .array .boolean
abbrev wsX120 : List Cond := u_ws RX12 TX12 119
theorem nmX12 : ∀ a, a < 119 → ∀ b, b < 119 → a ≠ b → (TX12 a).2.1 ≠ (TX12 b).2.1 := by decide +kernel
theorem tyX12_ok : ∀ k, k < 119 → parseFieldDescriptor (TX12 k).2.2.1 = some (tyX12 k) := by decide +kernel
abbrev cX12_init : ByteArray := prog_14_method_1_code
def yX12_init : MethodName := ⟨RX12, "<init>", "()V"⟩
abbrev cX12_lies : ByteArray := prog_14_method_2_code
def yX12_lies : MethodName := ⟨RX12, "lies", "(JJJ)Z"⟩
abbrev cX12_has : ByteArray := prog_14_method_3_code
def yX12_has : MethodName := ⟨RX12, "has", "(II)Z"⟩
abbrev cX12_sizeOf : ByteArray := prog_14_method_4_code
def yX12_sizeOf : MethodName := ⟨RX12, "sizeOf", "(I)I"⟩
abbrev cX12_held : ByteArray := prog_14_method_5_code
def yX12_held : MethodName := ⟨RX12, "held", "(II)I"⟩
abbrev cX12_push : ByteArray := prog_14_method_6_code
def yX12_push : MethodName := ⟨RX12, "push", "(I)V"⟩
abbrev cX12_feed : ByteArray := prog_14_method_7_code
def yX12_feed : MethodName := ⟨RX12, "feed", "(IIIII)I"⟩
abbrev cX12_byteAt : ByteArray := prog_14_method_8_code
def yX12_byteAt : MethodName := ⟨RX12, "byteAt", "(I)I"⟩
abbrev cX12_here : ByteArray := prog_14_method_9_code
def yX12_here : MethodName := ⟨RX12, "here", "()I"⟩
abbrev cX12_wrongs : ByteArray := prog_14_method_10_code
def yX12_wrongs : MethodName := ⟨RX12, "wrongs", "(II)V"⟩
abbrev cX12_isGood : ByteArray := prog_14_method_11_code
def yX12_isGood : MethodName := ⟨RX12, "isGood", "()Z"⟩
abbrev cX12_seesDigit : ByteArray := prog_14_method_12_code
def yX12_seesDigit : MethodName := ⟨RX12, "seesDigit", "()Z"⟩
abbrev cX12_begins : ByteArray := prog_14_method_13_code
def yX12_begins : MethodName := ⟨RX12, "begins", "(I)V"⟩
abbrev cX12_emit : ByteArray := prog_14_method_14_code
def yX12_emit : MethodName := ⟨RX12, "emit", "(II)V"⟩
abbrev cX12_top : ByteArray := prog_14_method_15_code
def yX12_top : MethodName := ⟨RX12, "top", "()I"⟩
abbrev cX12_puts : ByteArray := prog_14_method_16_code
def yX12_puts : MethodName := ⟨RX12, "puts", "(I)V"⟩
abbrev cX12_opens : ByteArray := prog_14_method_17_code
def yX12_opens : MethodName := ⟨RX12, "opens", "()V"⟩
abbrev cX12_reads : ByteArray := prog_14_method_18_code
def yX12_reads : MethodName := ⟨RX12, "reads", "()I"⟩
abbrev cX12_isTimes : ByteArray := prog_14_method_19_code
def yX12_isTimes : MethodName := ⟨RX12, "isTimes", "(I)Z"⟩
abbrev cX12_isPlus : ByteArray := prog_14_method_20_code
def yX12_isPlus : MethodName := ⟨RX12, "isPlus", "(I)Z"⟩
abbrev cX12_isCompared : ByteArray := prog_14_method_21_code
def yX12_isCompared : MethodName := ⟨RX12, "isCompared", "(I)Z"⟩
abbrev cX12_isValue : ByteArray := prog_14_method_22_code
def yX12_isValue : MethodName := ⟨RX12, "isValue", "(I)Z"⟩
abbrev cX12_sums : ByteArray := prog_14_method_23_code
def yX12_sums : MethodName := ⟨RX12, "sums", "(Z)V"⟩
abbrev cX12_joins : ByteArray := prog_14_method_24_code
def yX12_joins : MethodName := ⟨RX12, "joins", "(Z)V"⟩
abbrev cX12_ends : ByteArray := prog_14_method_25_code
def yX12_ends : MethodName := ⟨RX12, "ends", "()V"⟩
abbrev cX12_factor : ByteArray := prog_14_method_26_code
def yX12_factor : MethodName := ⟨RX12, "factor", "()V"⟩
abbrev cX12_stays : ByteArray := prog_14_method_27_code
def yX12_stays : MethodName := ⟨RX12, "stays", "()Z"⟩
abbrev cX12_value : ByteArray := prog_14_method_28_code
def yX12_value : MethodName := ⟨RX12, "value", "()V"⟩
abbrev cX12_pieceOfC : ByteArray := prog_14_method_29_code
def yX12_pieceOfC : MethodName := ⟨RX12, "pieceOfC", "()V"⟩
abbrev cX12_goesBehind : ByteArray := prog_14_method_30_code
def yX12_goesBehind : MethodName := ⟨RX12, "goesBehind", "()Z"⟩
abbrev cX12_condition : ByteArray := prog_14_method_31_code
def yX12_condition : MethodName := ⟨RX12, "condition", "()V"⟩
abbrev cX12_isClause : ByteArray := prog_14_method_32_code
def yX12_isClause : MethodName := ⟨RX12, "isClause", "(I)Z"⟩
abbrev cX12_clause : ByteArray := prog_14_method_33_code
def yX12_clause : MethodName := ⟨RX12, "clause", "(Z)V"⟩
abbrev cX12_takesText : ByteArray := prog_14_method_34_code
def yX12_takesText : MethodName := ⟨RX12, "takesText", "(IZ)I"⟩
abbrev cX12_law : ByteArray := prog_14_method_35_code
def yX12_law : MethodName := ⟨RX12, "law", "(I)I"⟩
abbrev cX12_rules : ByteArray := prog_14_method_36_code
def yX12_rules : MethodName := ⟨RX12, "rules", "(I)I"⟩
abbrev cX12_valueOf : ByteArray := prog_14_method_37_code
def yX12_valueOf : MethodName := ⟨RX12, "valueOf", "(I)I"⟩
abbrev cX12_worked : ByteArray := prog_14_method_38_code
def yX12_worked : MethodName := ⟨RX12, "worked", "(III)I"⟩
abbrev cX12_does : ByteArray := prog_14_method_39_code
def yX12_does : MethodName := ⟨RX12, "does", "(II)V"⟩
abbrev cX12_works : ByteArray := prog_14_method_40_code
def yX12_works : MethodName := ⟨RX12, "works", "(II)V"⟩
abbrev cX12_isSo : ByteArray := prog_14_method_41_code
def yX12_isSo : MethodName := ⟨RX12, "isSo", "(I)Z"⟩
abbrev cX12_tells : ByteArray := prog_14_method_42_code
def yX12_tells : MethodName := ⟨RX12, "tells", "(II)I"⟩
abbrev cX12_says : ByteArray := prog_14_method_43_code
def yX12_says : MethodName := ⟨RX12, "says", "(I)Z"⟩
abbrev cX12_nothingStands : ByteArray := prog_14_method_44_code
def yX12_nothingStands : MethodName := ⟨RX12, "nothingStands", "()V"⟩
abbrev cX12_gustStands : ByteArray := prog_14_method_45_code
def yX12_gustStands : MethodName := ⟨RX12, "gustStands", "(I)V"⟩
abbrev cX12_falling : ByteArray := prog_14_method_46_code
def yX12_falling : MethodName := ⟨RX12, "falling", "(II)I"⟩
abbrev cX12_isKeptBy : ByteArray := prog_14_method_47_code
def yX12_isKeptBy : MethodName := ⟨RX12, "isKeptBy", "(II)Z"⟩
abbrev cX12_isAngry : ByteArray := prog_14_method_48_code
def yX12_isAngry : MethodName := ⟨RX12, "isAngry", "(II)Z"⟩
abbrev cX12_doQuarrel : ByteArray := prog_14_method_49_code
def yX12_doQuarrel : MethodName := ⟨RX12, "doQuarrel", "(II)Z"⟩
abbrev cX12_isTold : ByteArray := prog_14_method_50_code
def yX12_isTold : MethodName := ⟨RX12, "isTold", "(I)Z"⟩
abbrev cX12_isWard : ByteArray := prog_14_method_51_code
def yX12_isWard : MethodName := ⟨RX12, "isWard", "(I)Z"⟩
abbrev cX12_isThere : ByteArray := prog_14_method_52_code
def yX12_isThere : MethodName := ⟨RX12, "isThere", "(I)Z"⟩
abbrev cX12_areHabits : ByteArray := prog_14_method_53_code
def yX12_areHabits : MethodName := ⟨RX12, "areHabits", "(I)Z"⟩
abbrev cX12_isIn : ByteArray := prog_14_method_54_code
def yX12_isIn : MethodName := ⟨RX12, "isIn", "(II)Z"⟩
abbrev cX12_manyIn : ByteArray := prog_14_method_55_code
def yX12_manyIn : MethodName := ⟨RX12, "manyIn", "(I)I"⟩
abbrev cX12_togetherIn : ByteArray := prog_14_method_56_code
def yX12_togetherIn : MethodName := ⟨RX12, "togetherIn", "(I)I"⟩
abbrev cX12_gust : ByteArray := prog_14_method_57_code
def yX12_gust : MethodName := ⟨RX12, "gust", "(IIIII)Z"⟩
abbrev cX12_name : ByteArray := prog_14_method_58_code
def yX12_name : MethodName := ⟨RX12, "name", "(II)Z"⟩
abbrev cX12_moves : ByteArray := prog_14_method_59_code
def yX12_moves : MethodName := ⟨RX12, "moves", "(II)Z"⟩
abbrev cX12_habit : ByteArray := prog_14_method_60_code
def yX12_habit : MethodName := ⟨RX12, "habit", "(IIZ)Z"⟩
abbrev cX12_ward : ByteArray := prog_14_method_61_code
def yX12_ward : MethodName := ⟨RX12, "ward", "(IIII)Z"⟩
abbrev cX12_nurse : ByteArray := prog_14_method_62_code
def yX12_nurse : MethodName := ⟨RX12, "nurse", "(II)Z"⟩
abbrev cX12_needs : ByteArray := prog_14_method_63_code
def yX12_needs : MethodName := ⟨RX12, "needs", "(II)Z"⟩
abbrev cX12_repeats : ByteArray := prog_14_method_64_code
def yX12_repeats : MethodName := ⟨RX12, "repeats", "(III)V"⟩
abbrev cX12_timesTold : ByteArray := prog_14_method_65_code
def yX12_timesTold : MethodName := ⟨RX12, "timesTold", "()I"⟩
abbrev cX12_monthTold : ByteArray := prog_14_method_66_code
def yX12_monthTold : MethodName := ⟨RX12, "monthTold", "()V"⟩
abbrev cX12_timetable : ByteArray := prog_14_method_67_code
def yX12_timetable : MethodName := ⟨RX12, "timetable", "(II)I"⟩
abbrev cX12_lessonOf : ByteArray := prog_14_method_68_code
def yX12_lessonOf : MethodName := ⟨RX12, "lessonOf", "(I)I"⟩
abbrev cX12_draw : ByteArray := prog_14_method_69_code
def yX12_draw : MethodName := ⟨RX12, "draw", "()I"⟩
abbrev cX12_weakens : ByteArray := prog_14_method_70_code
def yX12_weakens : MethodName := ⟨RX12, "weakens", "()V"⟩
abbrev cX12_isWell : ByteArray := prog_14_method_71_code
def yX12_isWell : MethodName := ⟨RX12, "isWell", "(I)Z"⟩
abbrev cX12_feeds : ByteArray := prog_14_method_72_code
def yX12_feeds : MethodName := ⟨RX12, "feeds", "(I)V"⟩
abbrev cX12_teaches : ByteArray := prog_14_method_73_code
def yX12_teaches : MethodName := ⟨RX12, "teaches", "(I)V"⟩
abbrev cX12_wardsGo : ByteArray := prog_14_method_74_code
def yX12_wardsGo : MethodName := ⟨RX12, "wardsGo", "()V"⟩
abbrev cX12_breaks : ByteArray := prog_14_method_75_code
def yX12_breaks : MethodName := ⟨RX12, "breaks", "()V"⟩
abbrev cX12_whistle : ByteArray := prog_14_method_76_code
def yX12_whistle : MethodName := ⟨RX12, "whistle", "()V"⟩
abbrev cX12_nursesGo : ByteArray := prog_14_method_77_code
def yX12_nursesGo : MethodName := ⟨RX12, "nursesGo", "()V"⟩
abbrev cX12_judges : ByteArray := prog_14_method_78_code
def yX12_judges : MethodName := ⟨RX12, "judges", "()V"⟩
abbrev cX12_go : ByteArray := prog_14_method_79_code
def yX12_go : MethodName := ⟨RX12, "go", "(I)V"⟩
abbrev cX12_months : ByteArray := prog_14_method_80_code
def yX12_months : MethodName := ⟨RX12, "months", "(I)I"⟩
abbrev cX12_laysAside : ByteArray := prog_14_method_81_code
def yX12_laysAside : MethodName := ⟨RX12, "laysAside", "(I)V"⟩
abbrev cX12_bringsBack : ByteArray := prog_14_method_82_code
def yX12_bringsBack : MethodName := ⟨RX12, "bringsBack", "(I)V"⟩
abbrev cX12_tried : ByteArray := prog_14_method_83_code
def yX12_tried : MethodName := ⟨RX12, "tried", "(II)I"⟩
abbrev cX12_orLess : ByteArray := prog_14_method_84_code
def yX12_orLess : MethodName := ⟨RX12, "orLess", "(I)I"⟩
abbrev cX12_gustIs : ByteArray := prog_14_method_85_code
def yX12_gustIs : MethodName := ⟨RX12, "gustIs", "(II)I"⟩
abbrev cX12_setIn : ByteArray := prog_14_method_86_code
def yX12_setIn : MethodName := ⟨RX12, "setIn", "(I)I"⟩
abbrev cX12_brokenIn : ByteArray := prog_14_method_87_code
def yX12_brokenIn : MethodName := ⟨RX12, "brokenIn", "(I)I"⟩
abbrev cX12_wardIs : ByteArray := prog_14_method_88_code
def yX12_wardIs : MethodName := ⟨RX12, "wardIs", "(II)I"⟩
abbrev cX12_nurseIs : ByteArray := prog_14_method_89_code
def yX12_nurseIs : MethodName := ⟨RX12, "nurseIs", "(II)I"⟩
abbrev cX12_quarrel : ByteArray := prog_14_method_90_code
def yX12_quarrel : MethodName := ⟨RX12, "quarrel", "(II)I"⟩
abbrev cX12_toldGusts : ByteArray := prog_14_method_91_code
def yX12_toldGusts : MethodName := ⟨RX12, "toldGusts", "()I"⟩
abbrev cX12_areGusts : ByteArray := prog_14_method_92_code
def yX12_areGusts : MethodName := ⟨RX12, "areGusts", "(III)Z"⟩
abbrev cX12_takesSome : ByteArray := prog_14_method_93_code
def yX12_takesSome : MethodName := ⟨RX12, "takesSome", "(I)I"⟩
abbrev cX12_placeIn : ByteArray := prog_14_method_94_code
def yX12_placeIn : MethodName := ⟨RX12, "placeIn", "(II)I"⟩
abbrev cX12_powerOf : ByteArray := prog_14_method_95_code
def yX12_powerOf : MethodName := ⟨RX12, "powerOf", "(II)I"⟩
abbrev cX12_opensRow : ByteArray := prog_14_method_96_code
def yX12_opensRow : MethodName := ⟨RX12, "opensRow", "(III)V"⟩
abbrev cX12_keepsRow : ByteArray := prog_14_method_97_code
def yX12_keepsRow : MethodName := ⟨RX12, "keepsRow", "(I)V"⟩
abbrev cX12_takesPlaces : ByteArray := prog_14_method_98_code
def yX12_takesPlaces : MethodName := ⟨RX12, "takesPlaces", "(I)I"⟩
abbrev cX12_isRoomFor : ByteArray := prog_14_method_99_code
def yX12_isRoomFor : MethodName := ⟨RX12, "isRoomFor", "(II)Z"⟩
abbrev cX12_twosIn : ByteArray := prog_14_method_100_code
def yX12_twosIn : MethodName := ⟨RX12, "twosIn", "(I)I"⟩
abbrev cX12_housed : ByteArray := prog_14_method_101_code
def yX12_housed : MethodName := ⟨RX12, "housed", "(III)I"⟩
abbrev cX12_wind : ByteArray := prog_14_method_102_code
def yX12_wind : MethodName := ⟨RX12, "wind", "(III)Z"⟩
abbrev cX12_canGo : ByteArray := prog_14_method_103_code
def yX12_canGo : MethodName := ⟨RX12, "canGo", "(II)Z"⟩
abbrev cX12_canLeave : ByteArray := prog_14_method_104_code
def yX12_canLeave : MethodName := ⟨RX12, "canLeave", "(I)Z"⟩
abbrev cX12_laysLeaving : ByteArray := prog_14_method_105_code
def yX12_laysLeaving : MethodName := ⟨RX12, "laysLeaving", "(I)V"⟩
abbrev cX12_leaving : ByteArray := prog_14_method_106_code
def yX12_leaving : MethodName := ⟨RX12, "leaving", "(II)I"⟩
abbrev cX12_letGo : ByteArray := prog_14_method_107_code
def yX12_letGo : MethodName := ⟨RX12, "letGo", "(I)I"⟩
abbrev cX12_home : ByteArray := prog_14_method_108_code
def yX12_home : MethodName := ⟨RX12, "home", "(II)Z"⟩
abbrev cX12_homesFor : ByteArray := prog_14_method_109_code
def yX12_homesFor : MethodName := ⟨RX12, "homesFor", "(II)I"⟩
abbrev cX12_greaterPart : ByteArray := prog_14_method_110_code
def yX12_greaterPart : MethodName := ⟨RX12, "greaterPart", "(II)I"⟩
abbrev cX12_from : ByteArray := prog_14_method_111_code
def yX12_from : MethodName := ⟨RX12, "from", "(III)I"⟩
abbrev cX12_laysLessons : ByteArray := prog_14_method_112_code
def yX12_laysLessons : MethodName := ⟨RX12, "laysLessons", "(II)Z"⟩
abbrev cX12_taught : ByteArray := prog_14_method_113_code
def yX12_taught : MethodName := ⟨RX12, "taught", "(III)I"⟩
abbrev cX12_house : ByteArray := prog_14_method_114_code
def yX12_house : MethodName := ⟨RX12, "house", "(III)Z"⟩
abbrev cX12_isHigher : ByteArray := prog_14_method_115_code
def yX12_isHigher : MethodName := ⟨RX12, "isHigher", "(II)Z"⟩
abbrev cX12_isLiked : ByteArray := prog_14_method_116_code
def yX12_isLiked : MethodName := ⟨RX12, "isLiked", "(III)Z"⟩
abbrev cX12_asksNext : ByteArray := prog_14_method_117_code
def yX12_asksNext : MethodName := ⟨RX12, "asksNext", "(I)I"⟩
abbrev cX12_isAnywhere : ByteArray := prog_14_method_118_code
def yX12_isAnywhere : MethodName := ⟨RX12, "isAnywhere", "(I)Z"⟩
abbrev cX12_laysPlaces : ByteArray := prog_14_method_119_code
def yX12_laysPlaces : MethodName := ⟨RX12, "laysPlaces", "(I)V"⟩
abbrev cX12_placed : ByteArray := prog_14_method_120_code
def yX12_placed : MethodName := ⟨RX12, "placed", "(II)I"⟩
abbrev cX12_fair : ByteArray := prog_14_method_121_code
def yX12_fair : MethodName := ⟨RX12, "fair", "(I)I"⟩
abbrev cX12_lower : ByteArray := prog_14_method_122_code
def yX12_lower : MethodName := ⟨RX12, "lower", "(II)I"⟩
abbrev cX12_higher : ByteArray := prog_14_method_123_code
def yX12_higher : MethodName := ⟨RX12, "higher", "(II)I"⟩
abbrev cX12_hourOf : ByteArray := prog_14_method_124_code
def yX12_hourOf : MethodName := ⟨RX12, "hourOf", "(I)I"⟩
abbrev cX12_laysAhead : ByteArray := prog_14_method_125_code
def yX12_laysAhead : MethodName := ⟨RX12, "laysAhead", "(II)Z"⟩
abbrev cX12_laysBehind : ByteArray := prog_14_method_126_code
def yX12_laysBehind : MethodName := ⟨RX12, "laysBehind", "(II)V"⟩
abbrev cX12_escaped : ByteArray := prog_14_method_127_code
def yX12_escaped : MethodName := ⟨RX12, "escaped", "(IIII)I"⟩
abbrev cX12_isOrder : ByteArray := prog_14_method_128_code
def yX12_isOrder : MethodName := ⟨RX12, "isOrder", "(I)Z"⟩
abbrev cX12_toldNurses : ByteArray := prog_14_method_129_code
def yX12_toldNurses : MethodName := ⟨RX12, "toldNurses", "()I"⟩
abbrev cX12_nursed : ByteArray := prog_14_method_130_code
def yX12_nursed : MethodName := ⟨RX12, "nursed", "(III)I"⟩
abbrev cX12_laysRing : ByteArray := prog_14_method_131_code
def yX12_laysRing : MethodName := ⟨RX12, "laysRing", "(I)V"⟩
abbrev cX12_round : ByteArray := prog_14_method_132_code
def yX12_round : MethodName := ⟨RX12, "round", "(II)I"⟩
abbrev cX12_partOf : ByteArray := prog_14_method_133_code
def yX12_partOf : MethodName := ⟨RX12, "partOf", "(II)I"⟩
abbrev cX12_added : ByteArray := prog_14_method_134_code
def yX12_added : MethodName := ⟨RX12, "added", "(II)I"⟩
abbrev cX12_seed : ByteArray := prog_14_method_135_code
def yX12_seed : MethodName := ⟨RX12, "seed", "(I)Z"⟩
abbrev cX12_keep : ByteArray := prog_14_method_136_code
def yX12_keep : MethodName := ⟨RX12, "keep", "()I"⟩
abbrev cX12_undo : ByteArray := prog_14_method_137_code
def yX12_undo : MethodName := ⟨RX12, "undo", "()Z"⟩
abbrev cX12_check : ByteArray := prog_14_method_138_code
def yX12_check : MethodName := ⟨RX12, "check", "(I)I"⟩
abbrev cX12_toldOf : ByteArray := prog_14_method_139_code
def yX12_toldOf : MethodName := ⟨RX12, "toldOf", "(I)I"⟩
abbrev cX12_count : ByteArray := prog_14_method_140_code
def yX12_count : MethodName := ⟨RX12, "count", "(I)I"⟩
def RJx145de : String := "java/io/Serializable"
def TJx145de : u_T := fun k => match k with
  | _ => ("", "", "", false)
def tyJx145de : Nat → FieldType := fun k => match k with
  | _ => .int
abbrev wsJx145de0 : List Cond := u_ws RJx145de TJx145de 0
theorem nmJx145de : ∀ a, a < 0 → ∀ b, b < 0 → a ≠ b → (TJx145de a).2.1 ≠ (TJx145de b).2.1 := by decide +kernel
theorem tyJx145de_ok : ∀ k, k < 0 → parseFieldDescriptor (TJx145de k).2.2.1 = some (tyJx145de k) := by decide +kernel
def RJx9f9b0 : String := "java/lang/CharSequence"
def TJx9f9b0 : u_T := fun k => match k with
  | _ => ("", "", "", false)
def tyJx9f9b0 : Nat → FieldType := fun k => match k with
  | _ => .int
abbrev wsJx9f9b00 : List Cond := u_ws RJx9f9b0 TJx9f9b0 0
theorem nmJx9f9b0 : ∀ a, a < 0 → ∀ b, b < 0 → a ≠ b → (TJx9f9b0 a).2.1 ≠ (TJx9f9b0 b).2.1 := by decide +kernel
theorem tyJx9f9b0_ok : ∀ k, k < 0 → parseFieldDescriptor (TJx9f9b0 k).2.2.1 = some (tyJx9f9b0 k) := by decide +kernel
def RJ11 : String := "java/lang/Character"
def TJ11 : u_T := fun k => match k with
  | _ => ("", "", "", false)
def tyJ11 : Nat → FieldType := fun k => match k with
  | _ => .int
abbrev wsJ110 : List Cond := u_ws RJ11 TJ11 0
theorem nmJ11 : ∀ a, a < 0 → ∀ b, b < 0 → a ≠ b → (TJ11 a).2.1 ≠ (TJ11 b).2.1 := by decide +kernel
theorem tyJ11_ok : ∀ k, k < 0 → parseFieldDescriptor (TJ11 k).2.2.1 = some (tyJ11 k) := by decide +kernel
abbrev cJ11_isValidCodePoint_9a6ad : ByteArray := prog_15_method_11_code
def yJ11_isValidCodePoint_9a6ad : MethodName := ⟨RJ11, "isValidCodePoint", "(I)Z"⟩
abbrev cJ11_highSurrogate_5068e : ByteArray := prog_15_method_28_code
def yJ11_highSurrogate_5068e : MethodName := ⟨RJ11, "highSurrogate", "(I)C"⟩
abbrev cJ11_lowSurrogate_5068e : ByteArray := prog_15_method_29_code
def yJ11_lowSurrogate_5068e : MethodName := ⟨RJ11, "lowSurrogate", "(I)C"⟩
def RJxb160c : String := "java/lang/Comparable"
def TJxb160c : u_T := fun k => match k with
  | _ => ("", "", "", false)
def tyJxb160c : Nat → FieldType := fun k => match k with
  | _ => .int
abbrev wsJxb160c0 : List Cond := u_ws RJxb160c TJxb160c 0
theorem nmJxb160c : ∀ a, a < 0 → ∀ b, b < 0 → a ≠ b → (TJxb160c a).2.1 ≠ (TJxb160c b).2.1 := by decide +kernel
theorem tyJxb160c_ok : ∀ k, k < 0 → parseFieldDescriptor (TJxb160c k).2.2.1 = some (tyJxb160c k) := by decide +kernel
def RJ6 : String := "java/lang/Integer"
def TJ6 : u_T := fun k => match k with
  | _ => ("", "", "", false)
def tyJ6 : Nat → FieldType := fun k => match k with
  | _ => .int
abbrev wsJ60 : List Cond := u_ws RJ6 TJ6 0
theorem nmJ6 : ∀ a, a < 0 → ∀ b, b < 0 → a ≠ b → (TJ6 a).2.1 ≠ (TJ6 b).2.1 := by decide +kernel
theorem tyJ6_ok : ∀ k, k < 0 → parseFieldDescriptor (TJ6 k).2.2.1 = some (tyJ6 k) := by decide +kernel
abbrev cJ6_bitCount_0f7a4 : ByteArray := prog_16_method_49_code
def yJ6_bitCount_0f7a4 : MethodName := ⟨RJ6, "bitCount", "(I)I"⟩
def RJ9 : String := "java/lang/Math"
def TJ9 : u_T := fun k => match k with
  | _ => ("", "", "", false)
def tyJ9 : Nat → FieldType := fun k => match k with
  | _ => .int
abbrev wsJ90 : List Cond := u_ws RJ9 TJ9 0
theorem nmJ9 : ∀ a, a < 0 → ∀ b, b < 0 → a ≠ b → (TJ9 a).2.1 ≠ (TJ9 b).2.1 := by decide +kernel
theorem tyJ9_ok : ∀ k, k < 0 → parseFieldDescriptor (TJ9 k).2.2.1 = some (tyJ9 k) := by decide +kernel
abbrev cJ9_abs_0f7a4 : ByteArray := prog_17_method_59_code
def yJ9_abs_0f7a4 : MethodName := ⟨RJ9, "abs", "(I)I"⟩
abbrev cJ9_max_7cf53 : ByteArray := prog_17_method_65_code
def yJ9_max_7cf53 : MethodName := ⟨RJ9, "max", "(II)I"⟩
abbrev cJ9_min_7cf53 : ByteArray := prog_17_method_69_code
def yJ9_min_7cf53 : MethodName := ⟨RJ9, "min", "(II)I"⟩
def RJ0 : String := "java/lang/String"
def TJ0 : u_T := fun k => match k with
  | _ => ("", "", "", false)
def tyJ0 : Nat → FieldType := fun k => match k with
  | _ => .int
abbrev wsJ00 : List Cond := u_ws RJ0 TJ0 0
theorem nmJ0 : ∀ a, a < 0 → ∀ b, b < 0 → a ≠ b → (TJ0 a).2.1 ≠ (TJ0 b).2.1 := by decide +kernel
theorem tyJ0_ok : ∀ k, k < 0 → parseFieldDescriptor (TJ0 k).2.2.1 = some (tyJ0 k) := by decide +kernel
abbrev cJ0_length_8abf5 : ByteArray := prog_18_method_54_code
def yJ0_length_8abf5 : MethodName := ⟨RJ0, "length", "()I"⟩
abbrev cJ0_indexOf_0f7a4 : ByteArray := prog_18_method_79_code
def yJ0_indexOf_0f7a4 : MethodName := ⟨RJ0, "indexOf", "(I)I"⟩
abbrev cJ0_indexOf_7cf53 : ByteArray := prog_18_method_80_code
def yJ0_indexOf_7cf53 : MethodName := ⟨RJ0, "indexOf", "(II)I"⟩
abbrev cJ0_coder_7d493 : ByteArray := prog_18_method_152_code
def yJ0_coder_7d493 : MethodName := ⟨RJ0, "coder", "()B"⟩
abbrev cJ0_isLatin1_aae02 : ByteArray := prog_18_method_154_code
def yJ0_isLatin1_aae02 : MethodName := ⟨RJ0, "isLatin1", "()Z"⟩
abbrev cJ0_checkBoundsBeginEnd_23922 : ByteArray := prog_18_method_158_code
def yJ0_checkBoundsBeginEnd_23922 : MethodName := ⟨RJ0, "checkBoundsBeginEnd", "(III)V"⟩
def RJ1 : String := "java/lang/StringLatin1"
def TJ1 : u_T := fun k => match k with
  | _ => ("", "", "", false)
def tyJ1 : Nat → FieldType := fun k => match k with
  | _ => .int
abbrev wsJ10 : List Cond := u_ws RJ1 TJ1 0
theorem nmJ1 : ∀ a, a < 0 → ∀ b, b < 0 → a ≠ b → (TJ1 a).2.1 ≠ (TJ1 b).2.1 := by decide +kernel
theorem tyJ1_ok : ∀ k, k < 0 → parseFieldDescriptor (TJ1 k).2.2.1 = some (tyJ1 k) := by decide +kernel
abbrev cJ1_canEncode_9a6ad : ByteArray := prog_19_method_4_code
def yJ1_canEncode_9a6ad : MethodName := ⟨RJ1, "canEncode", "(I)Z"⟩
abbrev cJ1_indexOf_4cfef : ByteArray := prog_19_method_22_code
def yJ1_indexOf_4cfef : MethodName := ⟨RJ1, "indexOf", "([BIII)I"⟩
abbrev cJ1_indexOfChar_4cfef : ByteArray := prog_19_method_23_code
def yJ1_indexOfChar_4cfef : MethodName := ⟨RJ1, "indexOfChar", "([BIII)I"⟩
def RJ2 : String := "java/lang/StringUTF16"
def TJ2 : u_T := fun k => match k with
  | _ => ("", "", "", false)
def tyJ2 : Nat → FieldType := fun k => match k with
  | _ => .int
abbrev wsJ20 : List Cond := u_ws RJ2 TJ2 0
theorem nmJ2 : ∀ a, a < 0 → ∀ b, b < 0 → a ≠ b → (TJ2 a).2.1 ≠ (TJ2 b).2.1 := by decide +kernel
theorem tyJ2_ok : ∀ k, k < 0 → parseFieldDescriptor (TJ2 k).2.2.1 = some (tyJ2 k) := by decide +kernel
abbrev cJ2_getChar_3b067 : ByteArray := prog_20_method_5_code
def yJ2_getChar_3b067 : MethodName := ⟨RJ2, "getChar", "([BI)C"⟩
abbrev cJ2_length_9d52b : ByteArray := prog_20_method_6_code
def yJ2_length_9d52b : MethodName := ⟨RJ2, "length", "([B)I"⟩
abbrev cJ2_indexOf_4cfef : ByteArray := prog_20_method_40_code
def yJ2_indexOf_4cfef : MethodName := ⟨RJ2, "indexOf", "([BIII)I"⟩
abbrev cJ2_indexOfChar_4cfef : ByteArray := prog_20_method_47_code
def yJ2_indexOfChar_4cfef : MethodName := ⟨RJ2, "indexOfChar", "([BIII)I"⟩
abbrev cJ2_indexOfCharUnsafe_4cfef : ByteArray := prog_20_method_48_code
def yJ2_indexOfCharUnsafe_4cfef : MethodName := ⟨RJ2, "indexOfCharUnsafe", "([BIII)I"⟩
abbrev cJ2_indexOfSupplementary_4cfef : ByteArray := prog_20_method_49_code
def yJ2_indexOfSupplementary_4cfef : MethodName := ⟨RJ2, "indexOfSupplementary", "([BIII)I"⟩
abbrev cJ2_checkBoundsBeginEnd_d044e : ByteArray := prog_20_method_93_code
def yJ2_checkBoundsBeginEnd_d044e : MethodName := ⟨RJ2, "checkBoundsBeginEnd", "(II[B)V"⟩
def RJ10 : String := "java/lang/System"
def TJ10 : u_T := fun k => match k with
  | _ => ("", "", "", false)
def tyJ10 : Nat → FieldType := fun k => match k with
  | _ => .int
abbrev wsJ100 : List Cond := u_ws RJ10 TJ10 0
theorem nmJ10 : ∀ a, a < 0 → ∀ b, b < 0 → a ≠ b → (TJ10 a).2.1 ≠ (TJ10 b).2.1 := by decide +kernel
theorem tyJ10_ok : ∀ k, k < 0 → parseFieldDescriptor (TJ10 k).2.2.1 = some (tyJ10 k) := by decide +kernel
def RJxfd54e : String := "java/lang/constant/Constable"
def TJxfd54e : u_T := fun k => match k with
  | _ => ("", "", "", false)
def tyJxfd54e : Nat → FieldType := fun k => match k with
  | _ => .int
abbrev wsJxfd54e0 : List Cond := u_ws RJxfd54e TJxfd54e 0
theorem nmJxfd54e : ∀ a, a < 0 → ∀ b, b < 0 → a ≠ b → (TJxfd54e a).2.1 ≠ (TJxfd54e b).2.1 := by decide +kernel
theorem tyJxfd54e_ok : ∀ k, k < 0 → parseFieldDescriptor (TJxfd54e k).2.2.1 = some (tyJxfd54e k) := by decide +kernel
def RJx3cf43 : String := "java/lang/constant/ConstantDesc"
def TJx3cf43 : u_T := fun k => match k with
  | _ => ("", "", "", false)
def tyJx3cf43 : Nat → FieldType := fun k => match k with
  | _ => .int
abbrev wsJx3cf430 : List Cond := u_ws RJx3cf43 TJx3cf43 0
theorem nmJx3cf43 : ∀ a, a < 0 → ∀ b, b < 0 → a ≠ b → (TJx3cf43 a).2.1 ≠ (TJx3cf43 b).2.1 := by decide +kernel
theorem tyJx3cf43_ok : ∀ k, k < 0 → parseFieldDescriptor (TJx3cf43 k).2.2.1 = some (tyJx3cf43 k) := by decide +kernel
def RJ7 : String := "java/util/Arrays"
def TJ7 : u_T := fun k => match k with
  | _ => ("", "", "", false)
def tyJ7 : Nat → FieldType := fun k => match k with
  | _ => .int
abbrev wsJ70 : List Cond := u_ws RJ7 TJ7 0
theorem nmJ7 : ∀ a, a < 0 → ∀ b, b < 0 → a ≠ b → (TJ7 a).2.1 ≠ (TJ7 b).2.1 := by decide +kernel
theorem tyJ7_ok : ∀ k, k < 0 → parseFieldDescriptor (TJ7 k).2.2.1 = some (tyJ7 k) := by decide +kernel
abbrev cJ7_fill_53178 : ByteArray := prog_22_method_103_code
def yJ7_fill_53178 : MethodName := ⟨RJ7, "fill", "([II)V"⟩
def RJ3 : String := "jdk/internal/util/Preconditions"
def TJ3 : u_T := fun k => match k with
  | _ => ("", "", "", false)
def tyJ3 : Nat → FieldType := fun k => match k with
  | _ => .int
abbrev wsJ30 : List Cond := u_ws RJ3 TJ3 0
theorem nmJ3 : ∀ a, a < 0 → ∀ b, b < 0 → a ≠ b → (TJ3 a).2.1 ≠ (TJ3 b).2.1 := by decide +kernel
theorem tyJ3_ok : ∀ k, k < 0 → parseFieldDescriptor (TJ3 k).2.2.1 = some (tyJ3 k) := by decide +kernel
abbrev cJ3_checkFromToIndex_8c36e : ByteArray := prog_23_method_12_code
def yJ3_checkFromToIndex_8c36e : MethodName := ⟨RJ3, "checkFromToIndex", "(IIILjava/util/function/BiFunction;)I"⟩
def RL : String := "GustHomeLaw"
abbrev cL_law : ByteArray := code
def yL_law : MethodName := ⟨RL, "law", "([I)Z"⟩
abbrev vwCl : List vw_C := [(RX0, TX0, 8), (RX1, TX1, 8), (RX2, TX2, 5), (RX3, TX3, 4), (RX4, TX4, 14), (RX5, TX5, 7), (RX6, TX6, 2), (RX7, TX7, 15), (RX8, TX8, 2), (RX9, TX9, 5), (RX10, TX10, 11), (RX11, TX11, 15), (RX12, TX12, 119)]
def g_ty (ci : Nat) : Nat → FieldType := match ci with
  | 0 => tyX0
  | 1 => tyX1
  | 2 => tyX2
  | 3 => tyX3
  | 4 => tyX4
  | 5 => tyX5
  | 6 => tyX6
  | 7 => tyX7
  | 8 => tyX8
  | 9 => tyX9
  | 10 => tyX10
  | 11 => tyX11
  | _ => tyX12
def g_nf (ci : Nat) : Nat := match ci with
  | 0 => 8
  | 1 => 8
  | 2 => 5
  | 3 => 4
  | 4 => 14
  | 5 => 7
  | 6 => 2
  | 7 => 15
  | 8 => 2
  | 9 => 5
  | 10 => 11
  | 11 => 15
  | _ => 119
def g_df (ci : Nat) : List Value := (List.range (g_nf ci)).map (fun j => defaultValue (g_ty ci j))
end
section
/-! a pure machine over the decoded instructions: values with relative references (0: the script; k + 1: the k-th cell made) -/
abbrev g_En : Type := (Instr × Nat) × Nat × Nat × Int
abbrev g_M : Type := String × MethodName × ByteArray × Nat × Option FieldType × (Nat → Option g_En)
abbrev g_Ce : Type := (Nat × Nat × ((Nat → Int32) ⊕ (Nat → Option Nat))) ⊕ (Nat × List Value)
abbrev g_Lc : Type := List (Nat × Value)
def g_i2 (f : Int32 → Int32 → Int32) (st : List Value) : Option (List Value) := match st with
  | .int y :: .int x :: r => some (.int (f x y) :: r)
  | _ => none
def g_d2 (f : Int32 → Int32 → Int32) (st : List Value) : Option (List Value) := match st with
  | .int y :: .int x :: r => if y = 0 then none else some (.int (f x y) :: r)
  | _ => none
def g_i1 (f : Int32 → Value) (st : List Value) : Option (List Value) := match st with
  | .int x :: r => some (f x :: r)
  | _ => none
def g_cm (st : List Value) : Option (List Value) := match st with
  | .long y :: .long x :: r => some (.int (lg_cmp x y) :: r)
  | _ => none
def g_dp (st : List Value) : Option (List Value) := match st with
  | v :: r => if v.category = 1 then some (v :: v :: r) else none
  | _ => none
def g_dd (st : List Value) : Option (List Value) := match st with
  | v :: w :: r => if v.category = 1 ∧ w.category = 1 then some (v :: w :: v :: w :: r) else none
  | _ => none
def g_po (st : List Value) : Option (List Value) := match st with
  | v :: r => if v.category = 1 then some r else none
  | _ => none
/-- instructions of the stack alone -/
def g_stk (ins : Instr) (z : Int) (st : List Value) : Option (List Value) := match ins with
  | .iconst n => some (.int (Int32.ofInt n) :: st)
  | .bipush n => some (.int (Int8.ofInt n).toInt32 :: st)
  | .sipush n => some (.int (Int16.ofInt n).toInt32 :: st)
  | .lconst n => some (.long (Int64.ofNat (n : Nat)) :: st)
  | .ldc _ => some (.int (Int32.ofInt z) :: st)
  | .ldc_w _ => some (.int (Int32.ofInt z) :: st)
  | .ldc2_w _ => some (.long (Int64.ofInt z) :: st)
  | .iadd => g_i2 (fun x y => x + y) st
  | .isub => g_i2 (fun x y => x - y) st
  | .imul => g_i2 (fun x y => x * y) st
  | .iand => g_i2 (fun x y => x &&& y) st
  | .ior => g_i2 (fun x y => x ||| y) st
  | .ixor => g_i2 (fun x y => x ^^^ y) st
  | .ishl => g_i2 (fun x y => x <<< (y &&& 31)) st
  | .ishr => g_i2 (fun x y => x >>> (y &&& 31)) st
  | .iushr => g_i2 (fun x y => (x.toUInt32 >>> (y.toUInt32 &&& Int32.toUInt32 31)).toInt32) st
  | .idiv => g_d2 (fun x y => x / y) st
  | .irem => g_d2 (fun x y => x - x / y * y) st
  | .ineg => g_i1 (fun x => .int (-x)) st
  | .i2l => g_i1 (fun x => .long x.toInt64) st
  | .i2b => g_i1 (fun x => .int x.toInt8.toInt32) st
  | .i2c => g_i1 (fun x => .int (x.toUInt32 % 65536).toInt32) st
  | .lcmp => g_cm st
  | .dup => g_dp st
  | .dup2 => g_dd st
  | .pop => g_po st
  | .aconst_null => some (.null :: st)
  | _ => none
def g_get (ls : g_Lc) (i : Nat) : Option Value := (ls.find? (fun q => q.1 == i)).map (fun q => q.2)
def g_set (ls : g_Lc) (i : Nat) (v : Value) : g_Lc := (i, v) :: ls.filter (fun q => !(q.1 == i) && !(q.1 + 1 == i && q.2.category == 2))
def g_ldi (ls : g_Lc) (i : Nat) (st : List Value) : Option (g_Lc × List Value) := match g_get ls i with
  | some (.int v) => some (ls, .int v :: st)
  | _ => none
def g_lda (ls : g_Lc) (i : Nat) (st : List Value) : Option (g_Lc × List Value) := match g_get ls i with
  | some (.ref v) => some (ls, .ref v :: st)
  | some .null => some (ls, .null :: st)
  | _ => none
def g_ldl (ls : g_Lc) (i : Nat) (st : List Value) : Option (g_Lc × List Value) := match g_get ls i with
  | some (.long v) => some (ls, .long v :: st)
  | _ => none
def g_sti (nL : Nat) (ls : g_Lc) (i : Nat) (st : List Value) : Option (g_Lc × List Value) := match st with
  | .int v :: r => if i < nL then some (g_set ls i (.int v), r) else none
  | _ => none
def g_sta (nL : Nat) (ls : g_Lc) (i : Nat) (st : List Value) : Option (g_Lc × List Value) := match st with
  | .ref v :: r => if i < nL then some (g_set ls i (.ref v), r) else none
  | .null :: r => if i < nL then some (g_set ls i .null, r) else none
  | _ => none
def g_inc (nL : Nat) (ls : g_Lc) (i : Nat) (n : Int) (st : List Value) : Option (g_Lc × List Value) := match g_get ls i with
  | some (.int v) => if i < nL then some (g_set ls i (.int (v + Int32.ofInt n)), st) else none
  | _ => none
/-- instructions of the locals -/
def g_lcl (nL : Nat) (ins : Instr) (ls : g_Lc) (st : List Value) : Option (g_Lc × List Value) := match ins with
  | .iload i => g_ldi ls i st
  | .iload_n k => g_ldi ls k st
  | .aload i => g_lda ls i st
  | .aload_n k => g_lda ls k st
  | .lload i => g_ldl ls i st
  | .lload_n k => g_ldl ls k st
  | .istore i => g_sti nL ls i st
  | .istore_n k => g_sti nL ls k st
  | .astore i => g_sta nL ls i st
  | .astore_n k => g_sta nL ls k st
  | .iinc i n => g_inc nL ls i n st
  | _ => none
def g_b1 (f : Int32 → Bool) (t e : Nat) (st : List Value) : Option (Nat × List Value) := match st with
  | .int x :: r => some (bif f x then t else e, r)
  | _ => none
def g_b2 (f : Int32 → Int32 → Bool) (t e : Nat) (st : List Value) : Option (Nat × List Value) := match st with
  | .int y :: .int x :: r => some (bif f x y then t else e, r)
  | _ => none
def g_bn (t e : Nat) (st : List Value) : Option (Nat × List Value) := match st with
  | .null :: r => some (t, r)
  | .ref _ :: r => some (e, r)
  | _ => none
def g_tg (pc : Nat) (o : Option Int) (r : List Value) : Option (Nat × List Value) := match o with
  | some o => match (pc : Int) + o with
    | .ofNat t => some (t, r)
    | _ => none
  | none => none
/-- jumps -/
def g_jmp (ins : Instr) (pc x : Nat) (st : List Value) : Option (Nat × List Value) := match ins with
  | .goto _ => some (x, st)
  | .ifCond .eq _ => g_b1 (fun a => decide (a = 0)) x (pc + 3) st
  | .ifCond .ne _ => g_b1 (fun a => decide (¬ a = 0)) x (pc + 3) st
  | .ifCond .lt _ => g_b1 (fun a => decide (a < 0)) x (pc + 3) st
  | .ifCond .ge _ => g_b1 (fun a => decide (0 ≤ a)) x (pc + 3) st
  | .ifCond .gt _ => g_b1 (fun a => decide (0 < a)) x (pc + 3) st
  | .ifCond .le _ => g_b1 (fun a => decide (a ≤ 0)) x (pc + 3) st
  | .if_icmp .eq _ => g_b2 (fun a b => decide (a = b)) x (pc + 3) st
  | .if_icmp .ne _ => g_b2 (fun a b => decide (¬ a = b)) x (pc + 3) st
  | .if_icmp .lt _ => g_b2 (fun a b => decide (a < b)) x (pc + 3) st
  | .if_icmp .ge _ => g_b2 (fun a b => decide (b ≤ a)) x (pc + 3) st
  | .if_icmp .gt _ => g_b2 (fun a b => decide (b < a)) x (pc + 3) st
  | .if_icmp .le _ => g_b2 (fun a b => decide (a ≤ b)) x (pc + 3) st
  | .ifnull _ => g_bn x (pc + 3) st
  | .ifnonnull _ => g_bn (pc + 3) x st
  | .tableswitch d lo hi offs => match st with
    | .int a :: r => g_tg pc (if a.toInt < lo ∨ hi < a.toInt then some d else offs[(a.toInt - lo).toNat]?) r
    | _ => none
  | .lookupswitch d ps => match st with
    | .int a :: r => if (ps.toList.zip (ps.toList.drop 1)).all (fun (a, next) => a.1 < next.1) = true then g_tg pc (some (Op.lookupswitch.offset ps.toList d a.toInt)) r else none
    | _ => none
  | _ => none
def g_tt (t : Nat) : FieldType := match t with
  | 0 => .int
  | 1 => .byte
  | 2 => .boolean
  | _ => .object "GustHome$Ward"
def g_out (i : Int32) (n : Nat) : Bool := decide (i < 0 ∨ n ≤ i.toNatClampNeg)
def g_gf (x y : Nat) (st : List Value) (σ : List g_Ce) : Option (List Value × List g_Ce) := match st with
  | .ref (a + 1) :: r => match σ[a]? with
    | some (.inr (ci, fs)) => bif ci == x then (match fs[y]? with
      | some v => some (v :: r, σ)
      | none => none) else none
    | _ => none
  | _ => none
def g_pf (x y : Nat) (st : List Value) (σ : List g_Ce) : Option (List Value × List g_Ce) := match st with
  | v :: .ref (a + 1) :: r => match σ[a]? with
    | some (.inr (ci, fs)) => if ci = x ∧ y < fs.length ∧ narrow (g_ty ci y) v = v ∧ fits (g_ty ci y) v = true then some (r, σ.set a (.inr (ci, fs.set y v))) else none
    | _ => none
  | _ => none
def g_tag (t : ArrayType) : Option Nat := match t with
  | .int => some 0
  | .byte => some 1
  | .boolean => some 2
  | _ => none
def g_na (t : ArrayType) (st : List Value) (σ : List g_Ce) : Option (List Value × List g_Ce) := match st with
  | .int n :: r => match g_tag t with
    | some k => if ¬ n < 0 ∧ n.toNatClampNeg ≤ 100000 then some (.ref (σ.length + 1) :: r, σ ++ [.inl (k, n.toNatClampNeg, .inl (fun _ => 0))]) else none
    | none => none
  | _ => none
def g_an (st : List Value) (σ : List g_Ce) : Option (List Value × List g_Ce) := match st with
  | .int n :: r => if ¬ n < 0 ∧ n.toNatClampNeg ≤ 100000 then some (.ref (σ.length + 1) :: r, σ ++ [.inl (3, n.toNatClampNeg, .inr (fun _ => none))]) else none
  | _ => none
def g_al (L : Nat) (st : List Value) (σ : List g_Ce) : Option (List Value × List g_Ce) := match st with
  | .ref 0 :: r => some (.int (Int32.ofNat L) :: r, σ)
  | .ref (a + 1) :: r => match σ[a]? with
    | some (.inl (t, n, _)) => if t < 4 then some (.int (Int32.ofNat n) :: r, σ) else none
    | _ => none
  | _ => none
def g_ia (L : Nat) (xs : Nat → Int32) (st : List Value) (σ : List g_Ce) : Option (List Value × List g_Ce) := match st with
  | .int i :: .ref 0 :: r => bif g_out i L then none else some (.int (xs i.toNatClampNeg) :: r, σ)
  | .int i :: .ref (a + 1) :: r => match σ[a]? with
    | some (.inl (0, n, .inl f)) => bif g_out i n then none else some (.int (f i.toNatClampNeg) :: r, σ)
    | _ => none
  | _ => none
def g_ba (st : List Value) (σ : List g_Ce) : Option (List Value × List g_Ce) := match st with
  | .int i :: .ref (a + 1) :: r => match σ[a]? with
    | some (.inl (1, n, .inl f)) => bif g_out i n then none else some (.int (f i.toNatClampNeg) :: r, σ)
    | some (.inl (2, n, .inl f)) => bif g_out i n then none else some (.int (f i.toNatClampNeg) :: r, σ)
    | _ => none
  | _ => none
def g_aa (st : List Value) (σ : List g_Ce) : Option (List Value × List g_Ce) := match st with
  | .int i :: .ref (a + 1) :: r => match σ[a]? with
    | some (.inl (3, n, .inr f)) => bif g_out i n then none else some (va_rf (f i.toNatClampNeg) :: r, σ)
    | _ => none
  | _ => none
def g_is (st : List Value) (σ : List g_Ce) : Option (List Value × List g_Ce) := match st with
  | .int v :: .int i :: .ref (a + 1) :: r => match σ[a]? with
    | some (.inl (0, n, .inl f)) => bif g_out i n then none else some (r, σ.set a (.inl (0, n, .inl (upd f i.toNatClampNeg v))))
    | _ => none
  | _ => none
def g_bs (st : List Value) (σ : List g_Ce) : Option (List Value × List g_Ce) := match st with
  | .int v :: .int i :: .ref (a + 1) :: r => match σ[a]? with
    | some (.inl (1, n, .inl f)) => bif g_out i n then none else some (r, σ.set a (.inl (1, n, .inl (upd f i.toNatClampNeg (vp_nar .byte v)))))
    | some (.inl (2, n, .inl f)) => bif g_out i n then none else some (r, σ.set a (.inl (2, n, .inl (upd f i.toNatClampNeg (vp_nar .boolean v)))))
    | _ => none
  | _ => none
def g_as (st : List Value) (σ : List g_Ce) : Option (List Value × List g_Ce) := match st with
  | .ref (v + 1) :: .int i :: .ref (a + 1) :: r => match σ[a]? with
    | some (.inl (3, n, .inr f)) => match σ[v]? with
      | some (.inr (9, _)) => bif g_out i n then none else some (r, σ.set a (.inl (3, n, .inr (va_up f i.toNatClampNeg (some (v + 1))))))
      | _ => none
    | _ => none
  | _ => none
def g_cat (st : List Value) : Nat := (st.map fun v => v.category).sum
/-- System.arraycopy between rows of ints -/
def g_cp (d : Nat) (st : List Value) (σ : List g_Ce) : Option (List Value × List g_Ce) := match st with
  | .int n :: .int dp :: .ref (a + 1) :: .int sp :: .ref (a0 + 1) :: r => match σ[a0]? with
    | some (.inl (0, n0, .inl f)) => match σ[a]? with
      | some (.inl (0, n1, .inl g)) => if ¬ sp < 0 ∧ ¬ dp < 0 ∧ ¬ n < 0 ∧ sp.toNatClampNeg + n.toNatClampNeg ≤ n0 ∧ dp.toNatClampNeg + n.toNatClampNeg ≤ n1 ∧ g_cat r ≤ 8 ∧ 0 < d then some (r, σ.set a (.inl (0, n1, .inl (va_cpy f g sp.toNatClampNeg dp.toNatClampNeg n.toNatClampNeg)))) else none
      | _ => none
    | _ => none
  | _ => none
def g_m2 (d : Nat) (f : Int32 → Int32 → Int32) (st : List Value) (σ : List g_Ce) : Option (List Value × List g_Ce) := match st with
  | .int y :: .int x :: r => if g_cat r ≤ 8 ∧ 0 < d then some (.int (f x y) :: r, σ) else none
  | _ => none
def g_m1 (d : Nat) (f : Int32 → Int32) (st : List Value) (σ : List g_Ce) : Option (List Value × List g_Ce) := match st with
  | .int x :: r => if g_cat r ≤ 8 ∧ 0 < d then some (.int (f x) :: r, σ) else none
  | _ => none
/-- System.arraycopy, Math.max, min, abs -/
def g_nv (d x : Nat) (st : List Value) (σ : List g_Ce) : Option (List Value × List g_Ce) := bif x == 99998 then g_cp d st σ else bif x == 99997 then g_m2 d (fun a b => if a < b then b else a) st σ else bif x == 99996 then g_m2 d (fun a b => if b < a then b else a) st σ else bif x == 99995 then g_m1 d (fun a => if 0 ≤ a then a else 0 - a) st σ else none
/-- instructions of the heap -/
def g_hp (d L : Nat) (xs : Nat → Int32) (ins : Instr) (x y : Nat) (st : List Value) (σ : List g_Ce) : Option (List Value × List g_Ce) := match ins with
  | .getfield _ => g_gf x y st σ
  | .putfield _ => g_pf x y st σ
  | .new _ => some (.ref (σ.length + 1) :: st, σ ++ [.inr (x, g_df x)])
  | .newarray t => g_na t st σ
  | .anewarray _ => g_an st σ
  | .arraylength => g_al L st σ
  | .iaload => g_ia L xs st σ
  | .baload => g_ba st σ
  | .aaload => g_aa st σ
  | .iastore => g_is st σ
  | .bastore => g_bs st σ
  | .aastore => g_as st σ
  | .invokestatic _ => g_nv d x st σ
  | _ => none
def g_step (d nL L : Nat) (xs : Nat → Int32) (en : g_En) (pc : Nat) (ls : g_Lc) (st : List Value) (σ : List g_Ce) : Option (Nat × g_Lc × List Value × List g_Ce) :=
  match g_stk en.1.1 en.2.2.2 st with
  | some st' => some (pc + en.1.2, ls, st', σ)
  | none => match g_lcl nL en.1.1 ls st with
    | some q => some (pc + en.1.2, q.1, q.2, σ)
    | none => match g_jmp en.1.1 pc en.2.1 st with
      | some q => some (q.1, ls, q.2, σ)
      | none => match g_hp d L xs en.1.1 en.2.1 en.2.2.1 st σ with
        | some q => some (pc + en.1.2, ls, q.1, q.2)
        | none => none
/-- a return: the instruction, the type, the stack -/
def g_rt (ins : Instr) (ret : Option FieldType) (st : List Value) : Option (Option Value) := match ins, ret, st with
  | .ireturn, some .int, [.int v] => some (some (.int v))
  | .ireturn, some .boolean, [.int v] => if narrow .boolean (.int v) = .int v then some (some (.int v)) else none
  | .ireturn, some .byte, [.int v] => if narrow .byte (.int v) = .int v then some (some (.int v)) else none
  | .ireturn, some .char, [.int v] => if narrow .char (.int v) = .int v then some (some (.int v)) else none
  | .areturn, some (.object _), [.ref v] => some (some (.ref v))
  | .areturn, some (.object _), [.null] => some (some .null)
  | .return_, none, [] => some none
  | _, _, _ => none
/-- a call: the callee's arguments, what is left below -/
def g_cl (k n : Nat) (ow : String) (st : List Value) (σ : List g_Ce) : Option (List Value × List Value) := match k with
  | 0 => bif n ≤ st.length then some ((st.take n).reverse, st.drop n) else none
  | 1 => match st.drop n with
    | .ref (a + 1) :: rest => match σ[a]? with
      | some (.inr (ci, _)) => match vwCl[ci]? with
        | some q => if q.1 = ow ∧ n ≤ st.length then some (.ref (a + 1) :: (st.take n).reverse, rest) else none
        | none => none
      | _ => none
    | _ => none
  | _ => match st.drop n with
    | .ref a :: rest => bif n ≤ st.length then some (.ref a :: (st.take n).reverse, rest) else none
    | _ => none
/-- Object.<init> -/
def g_oi (k : Nat) (st : List Value) : Option (List Value) := match k, st with
  | 2, .ref _ :: rest => bif g_cat rest ≤ 8 then some rest else none
  | _, _ => none
def g_ki (ins : Instr) : Option Nat := match ins with
  | .invokestatic _ => some 0
  | .invokevirtual _ => some 1
  | .invokespecial _ => some 2
  | _ => none
/-- String.indexOf on the one String constant, at its one place (GustHome$Reader.readFactor, 13 to 20): four instructions as one -/
def g_ixF (c : Int32) : List Int32 → Int32 → Int32
  | [], _ => -1
  | b :: l, k => if b = c then k else g_ixF c l (k + 1)
def g_ixo (v : Int32) : Int32 := g_ixF ((v.toUInt32 % 65536).toInt32) [115, 113, 116, 104, 100, 119, 111, 112, 108, 97, 110, 118, 117, 122, 109] 0
def g_mac (d : Nat) (M : g_M) (pc : Nat) (ls : g_Lc) (st : List Value) : Option (List Value) :=
  if M.1 = RX5 ∧ M.2.1 = yX5_readFactor ∧ M.2.2.1 = cX5_readFactor ∧ pc = 13 ∧ st.isEmpty = true ∧ 8 ≤ d then (match g_get ls 2 with
    | some (.int v) => some [.int (g_ixo v)]
    | _ => none) else none
def g_run (mt : Nat → Option g_M) (L : Nat) (xs : Nat → Int32) : Nat → Nat → g_M → Nat → g_Lc → List Value → List g_Ce → Option (Option Value × List g_Ce)
  | 0, _, _, _, _, _, _ => none
  | n + 1, d, M, pc, ls, st, σ =>
    match M.2.2.2.2.2 pc with
    | none => match g_mac d M pc ls st with
      | some st' => g_run mt L xs n d M 20 ls st' σ
      | none => none
    | some en => match g_step d M.2.2.2.1 L xs en pc ls st σ with
      | some q => g_run mt L xs n d M q.1 q.2.1 q.2.2.1 q.2.2.2
      | none => match g_rt en.1.1 M.2.2.2.2.1 st with
        | some r => some (r, σ)
        | none => match g_ki en.1.1 with
          | none => none
          | some k => match d with
            | 0 => none
            | d' + 1 => bif en.2.1 == 99999 then (match g_oi k st with
              | some rest => g_run mt L xs n (d' + 1) M (pc + 3) ls rest σ
              | none => none) else
              match mt en.2.1 with
              | none => none
              | some M' => match g_cl k en.2.2.1 M'.1 st σ with
                | none => none
                | some q => bif g_cat q.2 ≤ 8 && ((lg_sl q.1).length ≤ M'.2.2.2.1) then
                    (match g_run mt L xs n d' M' 0 (lv_args 0 q.1) [] σ with
                    | none => none
                    | some w => g_run mt L xs n (d' + 1) M (pc + 3) ls (w.1.toList ++ q.2) w.2) else none
end
section
/-! the pure store in the machine's heap -/
def g_wk : List Cond := lw_tbl.filter goodWord
def g_isN (w : Cond) : Bool := match w with
  | .fieldLinkNest _ _ _ _ _ _ => true
  | .methodLinkNest _ _ _ _ => true
  | _ => false
def g_wn : List Cond := lw_tbl.filter g_isN
def g_Nw (U : State) : Prop := ∀ w ∈ g_wn, va_Nw w U
theorem g_Nw_warm {s U : State} (hW : s.WarmedH U.vm) (h : g_Nw s) : g_Nw U := by
  intro w hw
  have h1 := h w hw
  have h2 : g_isN w = true := (List.mem_filter.mp hw).2
  cases w <;> first | exact va_Nw.warmF hW h1 | exact va_Nw.warmM hW h1 | (simp [g_isN] at h2)
theorem g_Nw_same {s U : State} (hv : s.vm = U.vm) (h : g_Nw s) : g_Nw U := by
  intro w hw
  have h1 := h w hw
  have h2 : g_isN w = true := (List.mem_filter.mp hw).2
  cases w <;> first | exact va_Nw.same rfl hv h1 | (simp [g_isN] at h2)
def g_ad (b sz k : Nat) : Nat := match k with
  | 0 => b
  | k + 1 => sz + k
def g_cv (b sz : Nat) (v : Value) : Value := match v with
  | .ref a => .ref (g_ad b sz a)
  | v => v
def g_ce (b sz : Nat) (dA : Nat → ClassId) (c : g_Ce) : va_E := match c with
  | .inl (t, n, .inl f) => .inl (dA t, n, .inl f)
  | .inl (t, n, .inr f) => .inl (dA t, n, .inr (.inr (.inr (.inr (fun j => (f j).map (g_ad b sz))))))
  | .inr (ci, fs) => .inr (ci, fs.map (g_cv b sz))
def g_ws (b sz : Nat) (dA : Nat → ClassId) (σ : List g_Ce) : va_W := σ.mapIdx (fun k c => (sz + k, g_ce b sz dA c))
def g_tys (dA : Nat → ClassId) : List (ClassId × FieldType) := [(dA 0, .int), (dA 1, .byte), (dA 2, .boolean), (dA 3, .object "GustHome$Ward")]
def g_A (sz : Nat) : Nat → Prop := fun q => sz ≤ q
def g_Hp (D : va_G) (b sz : Nat) (dA : Nat → ClassId) (σ : List g_Ce) (H : Heap) : Prop := va_P D vwCl (g_ws b sz dA σ) H ∧ H.size = sz + σ.length
theorem g_cv_cat (b sz : Nat) (v : Value) : (g_cv b sz v).category = v.category := by cases v <;> rfl
theorem g_ws_at {b sz : Nat} {dA : Nat → ClassId} {σ : List g_Ce} {k : Nat} {c : g_Ce} (h : σ[k]? = some c) : (g_ws b sz dA σ)[k]? = some (sz + k, g_ce b sz dA c) := by
  simp [g_ws, h]
theorem g_ws_D (b sz : Nat) (dA : Nat → ClassId) (σ : List g_Ce) : va_D (g_A sz) (g_ws b sz dA σ) := by
  have key : ∀ (k : Nat) (q : Nat × va_E), (g_ws b sz dA σ)[k]? = some q → q.1 = sz + k := by
    intro k q h
    simp only [g_ws, List.getElem?_mapIdx, Option.map_eq_some_iff] at h
    obtain ⟨c, -, rfl⟩ := h
    rfl
  refine ⟨fun i j x y hi hj hxy => ?_, fun k q h => ?_⟩
  · have h1 := key i x hi
    have h2 := key j y hj
    omega
  · show sz ≤ q.1
    rw [key k q h]
    omega
theorem g_ws_set {b sz : Nat} {dA : Nat → ClassId} {σ : List g_Ce} {k : Nat} {c : g_Ce} : (g_ws b sz dA σ).set k (sz + k, g_ce b sz dA c) = g_ws b sz dA (σ.set k c) := by
  apply List.ext_getElem?
  intro i
  simp only [g_ws, List.getElem?_set, List.getElem?_mapIdx, List.length_mapIdx]
  by_cases hk : k = i
  · subst hk
    by_cases hl : k < σ.length <;> simp [hl]
  · simp [hk]
theorem g_Hp_set {D : va_G} {b sz : Nat} {dA : Nat → ClassId} {σ : List g_Ce} {k : Nat} {c0 c : g_Ce} {H H1 : Heap} (h : g_Hp D b sz dA σ H) (hk : σ[k]? = some c0) (he : va_at D vwCl (sz + k, g_ce b sz dA c) H1) (z : H1.size = H.size) (oq : ∀ q : Nat, q ≠ sz + k → H1[q]? = H[q]?) : g_Hp D b sz dA (σ.set k c) H1 := by
  refine ⟨?_, by rw [z, List.length_set]; exact h.2⟩
  rw [← g_ws_set]
  exact h.1.set (g_ws_D b sz dA σ) (g_ws_at hk) he oq
theorem g_Hp_app {D : va_G} {b sz : Nat} {dA : Nat → ClassId} {σ : List g_Ce} {c : g_Ce} {H H1 : Heap} (h : g_Hp D b sz dA σ H) (he : va_at D vwCl (sz + σ.length, g_ce b sz dA c) H1) (z : H1.size = H.size + 1) (oq : ∀ q : Nat, q < H.size → H1[q]? = H[q]?) : g_Hp D b sz dA (σ ++ [c]) H1 := by
  refine ⟨?_, by rw [z, h.2]; simp; omega⟩
  have e : g_ws b sz dA (σ ++ [c]) = g_ws b sz dA σ ++ [(sz + σ.length, g_ce b sz dA c)] := by simp [g_ws, List.mapIdx_append]
  rw [e]
  refine (h.1.kept (fun k x hx => oq x.1 ((h.1 k x hx).lt))).app (fun k x hx => ?_)
  have hz : k < 1 := (List.getElem?_eq_some_iff.mp hx).1
  rw [show k = 0 by omega] at hx
  cases hx
  exact he
/-- what a frame's method knows of its own start -/
def g_St (D : va_G) (dA : Nat → ClassId) (U : State) : Prop := va_K D vwCl (g_tys dA) U ∧ g_Nw U ∧ va_AO "GustHome$Ward" U
theorem g_St_warm {D : va_G} {dA : Nat → ClassId} {s U : State} (hW : s.WarmedH U.vm) (h : g_St D dA s) : g_St D dA U := ⟨va_K.moved hW.alike h.1, g_Nw_warm hW h.2.1, va_AO.moved hW.alike h.2.2⟩
/-- the classes' own facts -/
theorem g_cls_ty : ∀ (ci : Nat) (C : String) (T : u_T) (N : Nat), vwCl[ci]? = some (C, T, N) → (∀ k, k < N → parseFieldDescriptor (T k).2.2.1 = some (g_ty ci k)) ∧ (∀ a, a < N → ∀ b, b < N → a ≠ b → (T a).2.1 ≠ (T b).2.1) ∧ N = g_nf ci := by
  intro ci C T N h
  match ci, h with
  | 0, h => cases h; exact ⟨tyX0_ok, nmX0, rfl⟩
  | 1, h => cases h; exact ⟨tyX1_ok, nmX1, rfl⟩
  | 2, h => cases h; exact ⟨tyX2_ok, nmX2, rfl⟩
  | 3, h => cases h; exact ⟨tyX3_ok, nmX3, rfl⟩
  | 4, h => cases h; exact ⟨tyX4_ok, nmX4, rfl⟩
  | 5, h => cases h; exact ⟨tyX5_ok, nmX5, rfl⟩
  | 6, h => cases h; exact ⟨tyX6_ok, nmX6, rfl⟩
  | 7, h => cases h; exact ⟨tyX7_ok, nmX7, rfl⟩
  | 8, h => cases h; exact ⟨tyX8_ok, nmX8, rfl⟩
  | 9, h => cases h; exact ⟨tyX9_ok, nmX9, rfl⟩
  | 10, h => cases h; exact ⟨tyX10_ok, nmX10, rfl⟩
  | 11, h => cases h; exact ⟨tyX11_ok, nmX11, rfl⟩
  | 12, h => cases h; exact ⟨tyX12_ok, nmX12, rfl⟩
  | n + 13, h => simp [vwCl] at h
end
section
/-! the one String constant, and the flag that the JDK reads with it: old cells that nobody writes -/
def j_by : List Int32 := [115, 113, 116, 104, 100, 119, 111, 112, 108, 97, 110, 118, 117, 122, 109]
def j_B (sz kA vA : Nat) (U : State) : Prop := va_O "java/lang/String" kA (g_A sz) U U.heap ∧ va_OF "java/lang/String" "coder" "B" (.int 0) kA (g_A sz) U U.heap ∧ va_OF "java/lang/String" "value" "[B" (.ref vA) kA (g_A sz) U U.heap ∧ va_T .byte vA 15 (fun j => .int (j_by.getD j 0)) (g_A sz) U U.heap ∧ va_Z "java/lang/String" "COMPACT_STRINGS" "Z" (.int 1) (g_A sz) U U.heap
theorem j_B_mv {sz kA vA : Nat} {s U : State} {H : Heap} {locs : List Loc} (h : j_B sz kA vA s) (hS : va_S (g_A sz) s.heap H locs) (hU : U.heap = H) (hvm : s.vm.Alike U.vm) : j_B sz kA vA U := by
  obtain ⟨h1, h2, h3, h4, h5⟩ := h
  unfold j_B
  rw [hU]
  exact ⟨va_O.moved hvm (h1.kept hS.2.1), va_OF.moved hvm (h2.kept hS.2.1), va_OF.moved hvm (h3.kept hS.2.1), va_T.moved hvm (h4.kept hS.2.1), va_Z.moved hvm (h5.kept hS.2.1)⟩
def g_Str (sz : Nat) (U : State) : Prop := ∃ kA vA : Nat, j_B sz kA vA U ∧ vk_R "GustHome$Reader" 120 "sqthdwoplanvuzm" kA U
theorem g_Str_mv {sz : Nat} {s U : State} {H : Heap} {locs : List Loc} (h : g_Str sz s) (hS : va_S (g_A sz) s.heap H locs) (hU : U.heap = H) (hW : s.WarmedH U.vm) : g_Str sz U := by
  obtain ⟨kA, vA, h1, h2⟩ := h
  exact ⟨kA, vA, j_B_mv h1 hS hU hW.alike, vk_R.warm hW h2⟩
theorem j_B_same {sz kA vA : Nat} {s U : State} (h : j_B sz kA vA s) (hv : U.vm = s.vm) (hU : U.heap = s.heap) : j_B sz kA vA U := j_B_mv h va_S.rf hU (by rw [hv]; exact Vm.Alike.refl s.vm)
theorem g_Str_same {sz : Nat} {s U : State} (h : g_Str sz s) (hv : U.vm = s.vm) (hU : U.heap = s.heap) : g_Str sz U := by
  obtain ⟨kA, vA, h1, h2⟩ := h
  exact ⟨kA, vA, j_B_same h1 hv hU, vk_R.same hv h2⟩
end
section
def g_len (ins : Instr) : Nat := match ins with
  | .bipush _ => 2
  | .sipush _ => 3
  | .ldc _ => 2
  | .ldc_w _ => 3
  | .ldc2_w _ => 3
  | .iload _ => 2
  | .aload _ => 2
  | .lload _ => 2
  | .istore _ => 2
  | .astore _ => 2
  | .iinc _ _ => 3
  | .getfield _ => 3
  | .putfield _ => 3
  | .new _ => 3
  | .newarray _ => 2
  | .anewarray _ => 3
  | .goto _ => 3
  | .ifCond _ _ => 3
  | .if_icmp _ _ => 3
  | .ifnull _ => 3
  | .ifnonnull _ => 3
  | .invokestatic _ => 3
  | .invokevirtual _ => 3
  | .invokespecial _ => 3
  | _ => 1
def g_off (ins : Instr) : Option Int := match ins with
  | .goto o => some o
  | .ifCond _ o => some o
  | .if_icmp _ o => some o
  | .ifnull o => some o
  | .ifnonnull o => some o
  | _ => none
def g_kst (own : String) (z : Int) (ins : Instr) : Prop := match ins with
  | .ldc i => Cond.constant own i (Int32.ofInt z) ∈ g_wk
  | .ldc_w i => Cond.constant own i (Int32.ofInt z) ∈ g_wk
  | .ldc2_w i => Cond.constantLong own i (Int64.ofInt z) ∈ g_wk
  | _ => True
def g_cl2 (b sz : Nat) (ls : g_Lc) : g_Lc := ls.map (fun q => (q.1, g_cv b sz q.2))
theorem g_get_at {b sz nL i : Nat} {ls : g_Lc} {lsA : Array Slot} {v : Value} (h : g_get ls i = some v) (hl : lv_has lsA nL (g_cl2 b sz ls)) : ∃ k : Nat, (g_cl2 b sz ls)[k]? = some (i, g_cv b sz v) := by
  unfold g_get at h
  obtain ⟨q, hq, rfl⟩ := Option.map_eq_some_iff.mp h
  have h1 : (q.1 == i) = true := List.find?_some (p := fun q : Nat × Value => q.1 == i) hq
  have h2 := List.mem_of_find?_eq_some hq
  have h3 : q.1 = i := by simpa using h1
  have h4 : (q.1, g_cv b sz q.2) ∈ g_cl2 b sz ls := List.mem_map.mpr ⟨q, h2, rfl⟩
  obtain ⟨k, hk⟩ := List.getElem?_of_mem h4
  exact ⟨k, by rw [hk, h3]⟩
theorem g_set_eq (b sz i : Nat) (ls : g_Lc) (v : Value) : (i, g_cv b sz v) :: (g_cl2 b sz ls).filter (fun q => !(q.1 == i) && !(q.1 + 1 == i && q.2.category == 2)) = g_cl2 b sz (g_set ls i v) := by
  simp only [g_cl2, g_set, List.map_cons, List.filter_map]
  congr 3
  funext q
  simp [Function.comp, g_cv_cat]
section GS
variable {p : Program} {l : Launch} {e : Env} {R : Room} {s : State} {m : MethodId} {args : Array Value} {below : List Frame} {meth : Method} {c : Code} {H : Heap} {locs : List Loc} {cells slots : Nat} {Q : State → Prop}
variable {code : ByteArray} {pc len : Nat} {lsA : Array Slot} {ls ls' : g_Lc} {ins : Instr} {z : Int} {st st' : List Value} {b sz nL : Nat} {own : String}
set_option maxHeartbeats 4000000 in
theorem g_stk_ok (hx : p.tables.exec = Jvm.exec) (hb : c.code = code) (hown : s.vm.findClass own = some m.cls) (hts : ∀ w ∈ g_wk, w.before args s = true) (hdg : decode code pc = .ok (ins, len)) (hlen : len = g_len ins) (hk : g_kst own z ins) (h : g_stk ins z st = some st')
    (kk : W p l e R s m args below meth c H locs cells slots Q (F0 m (pc + len) lsA (st'.map (g_cv b sz)))) : W p l e R s m args below meth c H locs cells slots Q (F0 m pc lsA (st.map (g_cv b sz))) := by
  subst hlen
  unfold g_stk at h
  split at h
  · cases h; exact lv_iconst hx hb hdg rfl kk
  · cases h; exact lv_bipush hx hb hdg rfl kk
  · cases h; exact lv_sipush hx hb hdg rfl kk
  · cases h; exact lv_lconst hx hb hdg rfl kk
  · cases h; exact lv_ldc hx hb hown (hts _ hk) hdg kk
  · cases h; exact lv_ldcw hx hb hown (hts _ hk) hdg kk
  · cases h; exact lv_ldc2 hx hb hown (hts _ hk) hdg kk
  · unfold g_i2 at h
    split at h
    · cases h; exact lv_iadd hx hb hdg kk
    · cases h
  · unfold g_i2 at h
    split at h
    · cases h; exact lv_isub hx hb hdg kk
    · cases h
  · unfold g_i2 at h
    split at h
    · cases h; exact lv_imul hx hb hdg kk
    · cases h
  · unfold g_i2 at h
    split at h
    · cases h; exact lv_iand hx hb hdg kk
    · cases h
  · unfold g_i2 at h
    split at h
    · cases h; exact lv_ior hx hb hdg kk
    · cases h
  · unfold g_i2 at h
    split at h
    · cases h; exact lv_ixor hx hb hdg kk
    · cases h
  · unfold g_i2 at h
    split at h
    · cases h; exact lv_ishl hx hb hdg kk
    · cases h
  · unfold g_i2 at h
    split at h
    · cases h; exact lv_ishr hx hb hdg kk
    · cases h
  · unfold g_i2 at h
    split at h
    · cases h; exact lv_iushr hx hb hdg rfl kk
    · cases h
  · unfold g_d2 at h
    split at h
    · split at h
      · cases h
      · rename_i hne
        cases h; exact lv_idiv hx hb hdg hne kk
    · cases h
  · unfold g_d2 at h
    split at h
    · split at h
      · cases h
      · rename_i hne
        cases h; exact lv_irem hx hb hdg hne kk
    · cases h
  · unfold g_i1 at h
    split at h
    · cases h; exact lv_ineg hx hb hdg kk
    · cases h
  · unfold g_i1 at h
    split at h
    · cases h; exact lv_i2l hx hb hdg rfl kk
    · cases h
  · unfold g_i1 at h
    split at h
    · cases h; exact lv_i2b hx hb hdg rfl kk
    · cases h
  · unfold g_i1 at h
    split at h
    · cases h; exact lv_i2c hx hb hdg rfl kk
    · cases h
  · unfold g_cm at h
    split at h
    · cases h; exact W.lcmp hx hb hdg kk
    · cases h
  · unfold g_dp at h
    split at h
    · split at h
      · rename_i hc
        cases h; exact lv_dup hx hb hdg (by rw [g_cv_cat]; exact hc) kk
      · cases h
    · cases h
  · unfold g_dd at h
    split at h
    · split at h
      · rename_i hc
        cases h; exact lv_dup2_11 hx hb hdg (by rw [g_cv_cat]; exact hc.1) (by rw [g_cv_cat]; exact hc.2) kk
      · cases h
    · cases h
  · unfold g_po at h
    split at h
    · split at h
      · rename_i hc
        cases h; exact lv_pop hx hb hdg (by rw [g_cv_cat]; exact hc) kk
      · cases h
    · cases h
  · cases h; exact lv_null hx hb hdg kk
  · cases h
set_option maxHeartbeats 4000000 in
theorem g_lcl_ok (hx : p.tables.exec = Jvm.exec) (hb : c.code = code) (hdg : decode code pc = .ok (ins, len)) (hlen : len = g_len ins) (hl : lv_has lsA nL (g_cl2 b sz ls)) (h : g_lcl nL ins ls st = some (ls', st'))
    (kk : ∀ lsB : Array Slot, lv_has lsB nL (g_cl2 b sz ls') → W p l e R s m args below meth c H locs cells slots Q (F0 m (pc + len) lsB (st'.map (g_cv b sz)))) : W p l e R s m args below meth c H locs cells slots Q (F0 m pc lsA (st.map (g_cv b sz))) := by
  subst hlen
  unfold g_lcl at h
  split at h
  · unfold g_ldi at h
    split at h
    · rename_i hg
      cases h
      obtain ⟨k, hk⟩ := g_get_at hg hl
      exact lv_iload hx hb hdg (lv_at hl k hk) (kk _ hl)
    · cases h
  · unfold g_ldi at h
    split at h
    · rename_i hg
      cases h
      obtain ⟨k, hk⟩ := g_get_at hg hl
      exact lv_iload_n hx hb hdg rfl (lv_at hl k hk) (kk _ hl)
    · cases h
  · unfold g_lda at h
    split at h
    · rename_i hg
      cases h
      obtain ⟨k, hk⟩ := g_get_at hg hl
      exact lv_aload hx hb hdg (lv_at hl k hk) (kk _ hl)
    · rename_i hg
      cases h
      obtain ⟨k, hk⟩ := g_get_at hg hl
      exact lv_aloadN hx hb hdg (lv_at hl k hk) (kk _ hl)
    · cases h
  · unfold g_lda at h
    split at h
    · rename_i hg
      cases h
      obtain ⟨k, hk⟩ := g_get_at hg hl
      exact lv_aload_n hx hb hdg rfl (lv_at hl k hk) (kk _ hl)
    · rename_i hg
      cases h
      obtain ⟨k, hk⟩ := g_get_at hg hl
      exact lv_aload_nN hx hb hdg rfl (lv_at hl k hk) (kk _ hl)
    · cases h
  · unfold g_ldl at h
    split at h
    · rename_i hg
      cases h
      obtain ⟨k, hk⟩ := g_get_at hg hl
      exact lv_lload hx hb hdg (lv_at hl k hk) (kk _ hl)
    · cases h
  · unfold g_ldl at h
    split at h
    · rename_i hg
      cases h
      obtain ⟨k, hk⟩ := g_get_at hg hl
      exact lv_lload_n hx hb hdg rfl (lv_at hl k hk) (kk _ hl)
    · cases h
  · unfold g_sti at h
    split at h
    · split at h
      · rename_i hn
        cases h
        exact lv_istore hx hb hdg hl hn (g_set_eq b sz _ _ (.int _)) (fun lsB hB => kk lsB hB)
      · cases h
    · cases h
  · unfold g_sti at h
    split at h
    · split at h
      · rename_i hn
        cases h
        exact lv_istore_n hx hb hdg rfl hl hn (g_set_eq b sz _ _ (.int _)) (fun lsB hB => kk lsB hB)
      · cases h
    · cases h
  · unfold g_sta at h
    split at h
    · split at h
      · rename_i hn
        cases h
        exact lv_astore hx hb hdg hl hn (g_set_eq b sz _ _ (.ref _)) (fun lsB hB => kk lsB hB)
      · cases h
    · split at h
      · rename_i hn
        cases h
        exact lv_astoreN hx hb hdg hl hn (g_set_eq b sz _ _ .null) (fun lsB hB => kk lsB hB)
      · cases h
    · cases h
  · unfold g_sta at h
    split at h
    · split at h
      · rename_i hn
        cases h
        exact lv_astore_n hx hb hdg rfl hl hn (g_set_eq b sz _ _ (.ref _)) (fun lsB hB => kk lsB hB)
      · cases h
    · split at h
      · rename_i hn
        cases h
        exact lv_astore_nN hx hb hdg rfl hl hn (g_set_eq b sz _ _ .null) (fun lsB hB => kk lsB hB)
      · cases h
    · cases h
  · unfold g_inc at h
    split at h
    · rename_i hg
      split at h
      · rename_i hn
        cases h
        obtain ⟨k, hk⟩ := g_get_at hg hl
        exact lv_iinc hx hb hdg hl hk rfl hn (g_set_eq b sz _ _ (.int _)) (fun lsB hB => kk lsB hB)
      · cases h
    · cases h
  · cases h
theorem g_tg_ok {o : Option Int} {r : List Value} {q : Nat × List Value} (h : g_tg pc o r = some q) : ∃ (off : Int), o = some off ∧ (pc : Int) + off = (q.1 : Int) ∧ q.2 = r := by
  unfold g_tg at h
  split at h
  · rename_i off
    split at h
    · rename_i t ht
      cases h
      exact ⟨off, rfl, ht, rfl⟩
    · cases h
  · cases h
set_option maxHeartbeats 4000000 in
theorem g_jmp_ok {x : Nat} {q : Nat × List Value} (hx : p.tables.exec = Jvm.exec) (hb : c.code = code) (hdg : decode code pc = .ok (ins, len)) (hlen : ∀ off, g_off ins = some off → len = 3) (hoff : ∀ off, g_off ins = some off → (pc : Int) + off = (x : Int)) (h : g_jmp ins pc x st = some q)
    (kk : W p l e R s m args below meth c H locs cells slots Q (F0 m q.1 lsA (q.2.map (g_cv b sz)))) : W p l e R s m args below meth c H locs cells slots Q (F0 m pc lsA (st.map (g_cv b sz))) := by
  unfold g_jmp at h
  split at h
  · cases hlen _ rfl; cases h; exact lv_goto hx hb hdg (hoff _ rfl) kk
  · cases hlen _ rfl
    unfold g_b1 at h
    split at h
    · cases h
      refine lv_if_eq hx hb hdg (hoff _ rfl) (fun hc => ?_) (fun hc => ?_)
      · simpa [hc] using kk
      · simpa [hc] using kk
    · cases h
  · cases hlen _ rfl
    unfold g_b1 at h
    split at h
    · cases h
      refine lv_if_ne hx hb hdg (hoff _ rfl) (fun hc => ?_) (fun hc => ?_)
      · simpa [hc] using kk
      · simpa [hc] using kk
    · cases h
  · cases hlen _ rfl
    unfold g_b1 at h
    split at h
    · cases h
      refine lv_if_lt hx hb hdg (hoff _ rfl) (fun hc => ?_) (fun hc => ?_)
      · simpa [hc] using kk
      · simpa [hc] using kk
    · cases h
  · cases hlen _ rfl
    unfold g_b1 at h
    split at h
    · cases h
      refine lv_if_ge hx hb hdg (hoff _ rfl) (fun hc => ?_) (fun hc => ?_)
      · simpa [hc] using kk
      · simpa [hc] using kk
    · cases h
  · cases hlen _ rfl
    unfold g_b1 at h
    split at h
    · cases h
      refine lv_if_gt hx hb hdg (hoff _ rfl) (fun hc => ?_) (fun hc => ?_)
      · simpa [hc] using kk
      · simpa [hc] using kk
    · cases h
  · cases hlen _ rfl
    unfold g_b1 at h
    split at h
    · cases h
      refine lv_if_le hx hb hdg (hoff _ rfl) (fun hc => ?_) (fun hc => ?_)
      · simpa [hc] using kk
      · simpa [hc] using kk
    · cases h
  · cases hlen _ rfl
    unfold g_b2 at h
    split at h
    · cases h
      refine lv_icmp_eq hx hb hdg (hoff _ rfl) (fun hc => ?_) (fun hc => ?_)
      · simpa [hc] using kk
      · simpa [hc] using kk
    · cases h
  · cases hlen _ rfl
    unfold g_b2 at h
    split at h
    · cases h
      refine lv_icmp_ne hx hb hdg (hoff _ rfl) (fun hc => ?_) (fun hc => ?_)
      · simpa [hc] using kk
      · simpa [hc] using kk
    · cases h
  · cases hlen _ rfl
    unfold g_b2 at h
    split at h
    · cases h
      refine lv_icmp_lt hx hb hdg (hoff _ rfl) (fun hc => ?_) (fun hc => ?_)
      · simpa [hc] using kk
      · simpa [hc] using kk
    · cases h
  · cases hlen _ rfl
    unfold g_b2 at h
    split at h
    · cases h
      refine lv_icmp_ge hx hb hdg (hoff _ rfl) (fun hc => ?_) (fun hc => ?_)
      · simpa [hc] using kk
      · simpa [hc] using kk
    · cases h
  · cases hlen _ rfl
    unfold g_b2 at h
    split at h
    · cases h
      refine lv_icmp_gt hx hb hdg (hoff _ rfl) (fun hc => ?_) (fun hc => ?_)
      · simpa [hc] using kk
      · simpa [hc] using kk
    · cases h
  · cases hlen _ rfl
    unfold g_b2 at h
    split at h
    · cases h
      refine lv_icmp_le hx hb hdg (hoff _ rfl) (fun hc => ?_) (fun hc => ?_)
      · simpa [hc] using kk
      · simpa [hc] using kk
    · cases h
  · cases hlen _ rfl
    unfold g_bn at h
    split at h
    · cases h; exact lv_ifnullN hx hb hdg (hoff _ rfl) kk
    · cases h; exact lv_ifnull hx hb hdg kk
    · cases h
  · cases hlen _ rfl
    unfold g_bn at h
    split at h
    · cases h; exact lv_ifnonnullN hx hb hdg kk
    · cases h; exact lv_ifnonnull hx hb hdg (hoff _ rfl) kk
    · cases h
  · split at h
    · obtain ⟨off, ho, ht, hr⟩ := g_tg_ok h
      rw [hr] at kk
      split at ho
      · rename_i hc
        cases ho
        exact lv_tableOut hx hb hdg hc ht kk
      · rename_i hc
        exact lv_tableIn hx hb hdg (fun z => hc (Or.inl z)) (fun z => hc (Or.inr z)) ho ht kk
    · cases h
  · split at h
    · split at h
      · rename_i hs
        obtain ⟨off, ho, ht, hr⟩ := g_tg_ok h
        rw [hr] at kk
        cases ho
        exact lv_lookup hx hb hdg hs rfl ht kk
      · cases h
    · cases h
  · cases h
end GS
end
section
def g_sz (c : g_Ce) : Nat := match c with
  | .inl (_, n, _) => n
  | .inr (ci, _) => g_nf ci
def g_sl (σ : List g_Ce) : Nat := (σ.map g_sz).sum
theorem g_sl_app (σ : List g_Ce) (c : g_Ce) : g_sl (σ ++ [c]) = g_sl σ + g_sz c := by simp [g_sl]
theorem g_sl_set : ∀ (σ : List g_Ce) (k : Nat) (c0 c : g_Ce), σ[k]? = some c0 → g_sz c0 = g_sz c → g_sl (σ.set k c) = g_sl σ
  | [], k, c0, c, h, _ => by simp at h
  | a :: r, 0, c0, c, h, hz => by
    simp at h
    subst h
    simp [g_sl, hz]
  | a :: r, k + 1, c0, c, h, hz => by
    have h1 := g_sl_set r k c0 c (by simpa using h) hz
    simp only [g_sl, List.set_cons_succ, List.map_cons, List.sum_cons] at h1 ⊢
    omega
def g_lkf (own : String) (i x y : Nat) : Prop := ∃ (C : String) (T : u_T) (N : Nat), vwCl[x]? = some (C, T, N) ∧ y < N ∧ (T y).1 = C ∧ (Cond.fieldLink own i C (T y).2.1 (T y).2.2.1 ∈ g_wk ∨ ∃ h, Cond.fieldLinkNest own i C (T y).2.1 (T y).2.2.1 h ∈ g_wn)
def g_lkp (own mn : String) (i x y : Nat) : Prop := ∃ (C : String) (T : u_T) (N : Nat), vwCl[x]? = some (C, T, N) ∧ y < N ∧ (T y).1 = C ∧ (((T y).2.2.2 = false ∧ (Cond.fieldLink own i C (T y).2.1 (T y).2.2.1 ∈ g_wk ∨ ∃ h, Cond.fieldLinkNest own i C (T y).2.1 (T y).2.2.1 h ∈ g_wn)) ∨ ((T y).2.2.2 = true ∧ mn = "<init>" ∧ (T y).1 = own ∧ Cond.fieldLink own i C (T y).2.1 (T y).2.2.1 ∈ g_wk))
def g_lkn (own : String) (i x : Nat) : Prop := ∃ (C : String) (T : u_T) (N : Nat), vwCl[x]? = some (C, T, N) ∧ Cond.classLink own i C ∈ g_wk ∧ Cond.instantiable C N ∈ g_wk ∧ Cond.initialized C ∈ g_wk
def g_lkh (own mn : String) (x y : Nat) (ins : Instr) : Prop := match ins with
  | .getfield i => g_lkf own i x y
  | .putfield i => g_lkp own mn i x y
  | .new i => g_lkn own i x
  | .newarray t => Cond.arrayClass (newarray.typeOf t) ∈ g_wk
  | .anewarray i => Cond.classLink own i "GustHome$Ward" ∈ g_wk
  | .invokestatic i => (x = 99998 → Cond.methodLink own i arraycopyName ∈ g_wk ∧ Cond.native arraycopyName ∈ g_wk ∧ Cond.static arraycopyName ∈ g_wk ∧ Cond.initialized "java/lang/System" ∈ g_wk) ∧ ((x = 99997 ∨ x = 99996 ∨ x = 99995) → Cond.initialized "java/lang/Math" ∈ g_wk ∧ (x = 99997 → Cond.methodLink own i Lib.Math.max.name ∈ g_wk ∧ Cond.static Lib.Math.max.name ∈ g_wk ∧ Cond.code Lib.Math.max.name Lib.Math.max.code 2 (some .int) ∈ g_wk) ∧ (x = 99996 → Cond.methodLink own i Lib.Math.min.name ∈ g_wk ∧ Cond.static Lib.Math.min.name ∈ g_wk ∧ Cond.code Lib.Math.min.name Lib.Math.min.code 2 (some .int) ∈ g_wk) ∧ (x = 99995 → Cond.methodLink own i Lib.Math.abs.name ∈ g_wk ∧ Cond.static Lib.Math.abs.name ∈ g_wk ∧ Cond.code Lib.Math.abs.name Lib.Math.abs.code 1 (some .int) ∈ g_wk))
  | _ => True
def g_clsIn : Prop := ∀ (ci : Nat) (C : String) (T : u_T) (N : Nat), vwCl[ci]? = some (C, T, N) → ∀ w ∈ u_ws C T N, w ∈ g_wk
theorem g_fit (b sz : Nat) (ty : FieldType) (v : Value) (h : fits ty v = true) : fits ty (g_cv b sz v) = true := by
  cases v <;> cases ty <;> first | exact h | rfl
theorem g_nar (b sz : Nat) (ty : FieldType) (v : Value) (h : narrow ty v = v) : narrow ty (g_cv b sz v) = g_cv b sz v := by
  cases v <;> cases ty <;> first | exact h | rfl
theorem g_tys_at {D : va_G} {dA : Nat → ClassId} {s : State} (h : g_St D dA s) {t : Nat} (ht : t < 4) : (g_tys dA)[t]? = some (dA t, g_tt t) := by
  match t, ht with
  | 0, _ => rfl
  | 1, _ => rfl
  | 2, _ => rfl
  | 3, _ => rfl
section GH
variable {p : Program} {l : Launch} {e : Env} {R : Room} {s : State} {m : MethodId} {args : Array Value} {below : List Frame} {meth : Method} {c : Code} {H : Heap} {locs : List Loc} {cells slots : Nat} {Q : State → Prop}
variable {code : ByteArray} {pc : Nat} {lsA : Array Slot} {b sz : Nat} {own : String} {D : va_G} {dA : Nat → ClassId} {σ : List g_Ce} {rest : List Value}
theorem g_aS {H1 : Heap} {a k : Nat} (hS : va_S (g_A sz) s.heap H locs) (z : H1.size = H.size) (oq : ∀ q : Nat, q ≠ sz + a → H1[q]? = H[q]?) : va_S (g_A sz) s.heap H1 (locs ++ [⟨sz + a, k⟩]) := hS.put z oq (Nat.le_add_right sz a)
theorem g_nS {H1 : Heap} (hS : va_S (g_A sz) s.heap H locs) (z : H1.size = H.size + 1) (oq : ∀ q : Nat, q < H.size → H1[q]? = H[q]?) : va_S (g_A sz) s.heap H1 locs := ⟨Nat.le_trans hS.1 (by omega), fun x h1 h2 => (oq x (Nat.lt_of_lt_of_le h1 hS.1)).trans (hS.2.1 x h1 h2), hS.2.2⟩
set_option maxHeartbeats 1000000 in
theorem g_iast_ok (hx : p.tables.exec = Jvm.exec) (hb : c.code = code) (hSt : g_St D dA s) (hH : g_Hp D b sz dA σ H) (hS : va_S (g_A sz) s.heap H locs) {a n : Nat} {f : Nat → Int32} (ha : σ[a]? = some (.inl (0, n, .inl f))) {i v : Int32} (hin : vp_in i n) (hdg : decode code pc = .ok (.iastore, 1))
    (kk : ∀ (H1 : Heap) (locs1 : List Loc), g_Hp D b sz dA (σ.set a (.inl (0, n, .inl (upd f i.toNatClampNeg v)))) H1 → va_S (g_A sz) s.heap H1 locs1 → W p l e R s m args below meth c H1 locs1 cells slots Q (F0 m (pc + 1) lsA rest)) : W p l e R s m args below meth c H locs cells slots Q (F0 m pc lsA (.int v :: .int i :: .ref (sz + a) :: rest)) := by
  have hc := hH.1 a _ (g_ws_at ha)
  refine W.iast hx hb hc ((hSt.1.2 0 _ (g_tys_at hSt (by decide))).1 n (fun j => .int (f j))) (fun q => by cases q) (by show ¬ (i < 0 ∨ (arrV _ _ _).slots.size ≤ _); rw [arrV_size]; exact hin) rfl rfl hdg fun H1 e z oq => ?_
  refine kk H1 _ (g_Hp_set hH ha ?_ z oq) (g_aS hS z oq)
  show H1[sz + a]? = some (vp_cell _ _)
  rw [e, vp_cell_i, vp_cell_i, arrV_store]
  congr 2
  funext q
  by_cases hq : q = i.toNatClampNeg
  · subst hq
    simp [updV, upd]
  · simp [updV, upd, hq]
set_option maxHeartbeats 1000000 in
theorem g_bast_ok (hx : p.tables.exec = Jvm.exec) (hb : c.code = code) (hSt : g_St D dA s) (hH : g_Hp D b sz dA σ H) (hS : va_S (g_A sz) s.heap H locs) {a n : Nat} {f : Nat → Int32} (ha : σ[a]? = some (.inl (1, n, .inl f))) {i v : Int32} (hin : vp_in i n) (hdg : decode code pc = .ok (.bastore, 1))
    (kk : ∀ (H1 : Heap) (locs1 : List Loc), g_Hp D b sz dA (σ.set a (.inl (1, n, .inl (upd f i.toNatClampNeg (vp_nar .byte v))))) H1 → va_S (g_A sz) s.heap H1 locs1 → W p l e R s m args below meth c H1 locs1 cells slots Q (F0 m (pc + 1) lsA rest)) : W p l e R s m args below meth c H locs cells slots Q (F0 m pc lsA (.int v :: .int i :: .ref (sz + a) :: rest)) := by
  have hc := hH.1 a _ (g_ws_at ha)
  refine W.bast hx hb hc ((hSt.1.2 1 _ (g_tys_at hSt (by decide))).1 n (fun j => .int (f j))) (fun q => by cases q) (by show ¬ (i < 0 ∨ (arrV _ _ _).slots.size ≤ _); rw [arrV_size]; exact hin) rfl rfl hdg fun H1 e z oq => ?_
  refine kk H1 _ (g_Hp_set hH ha ?_ z oq) (g_aS hS z oq)
  show H1[sz + a]? = some (vp_cell _ _)
  rw [e, vp_cell_i, vp_cell_i, arrV_store]
  congr 2
  funext q
  by_cases hq : q = i.toNatClampNeg
  · subst hq
    simp [updV, upd, vp_nar]
    try rfl
  · simp [updV, upd, hq]
set_option maxHeartbeats 1000000 in
theorem g_zast_ok (hx : p.tables.exec = Jvm.exec) (hb : c.code = code) (hSt : g_St D dA s) (hH : g_Hp D b sz dA σ H) (hS : va_S (g_A sz) s.heap H locs) {a n : Nat} {f : Nat → Int32} (ha : σ[a]? = some (.inl (2, n, .inl f))) {i v : Int32} (hin : vp_in i n) (hdg : decode code pc = .ok (.bastore, 1))
    (kk : ∀ (H1 : Heap) (locs1 : List Loc), g_Hp D b sz dA (σ.set a (.inl (2, n, .inl (upd f i.toNatClampNeg (vp_nar .boolean v))))) H1 → va_S (g_A sz) s.heap H1 locs1 → W p l e R s m args below meth c H1 locs1 cells slots Q (F0 m (pc + 1) lsA rest)) : W p l e R s m args below meth c H locs cells slots Q (F0 m pc lsA (.int v :: .int i :: .ref (sz + a) :: rest)) := by
  have hc := hH.1 a _ (g_ws_at ha)
  refine W.zast hx hb hc ((hSt.1.2 2 _ (g_tys_at hSt (by decide))).1 n (fun j => .int (f j))) (fun q => by cases q) (by show ¬ (i < 0 ∨ (arrV _ _ _).slots.size ≤ _); rw [arrV_size]; exact hin) rfl rfl hdg fun H1 e z oq => ?_
  refine kk H1 _ (g_Hp_set hH ha ?_ z oq) (g_aS hS z oq)
  show H1[sz + a]? = some (vp_cell _ _)
  rw [e, vp_cell_i, vp_cell_i, arrV_store]
  congr 2
  funext q
  by_cases hq : q = i.toNatClampNeg
  · subst hq
    simp [updV, upd, vp_nar]
    try rfl
  · simp [updV, upd, hq]
set_option maxHeartbeats 1000000 in
theorem g_aast_ok (hx : p.tables.exec = Jvm.exec) (hb : c.code = code) (hSt : g_St D dA s) (hH : g_Hp D b sz dA σ H) (hS : va_S (g_A sz) s.heap H locs) {a v n : Nat} {f : Nat → Option Nat} {vs : List Value} (ha : σ[a]? = some (.inl (3, n, .inr f))) (hv : σ[v]? = some (.inr (9, vs))) {i : Int32} (hin : vp_in i n) (hdg : decode code pc = .ok (.aastore, 1))
    (kk : ∀ (H1 : Heap) (locs1 : List Loc), g_Hp D b sz dA (σ.set a (.inl (3, n, .inr (va_up f i.toNatClampNeg (some (v + 1)))))) H1 → va_S (g_A sz) s.heap H1 locs1 → W p l e R s m args below meth c H1 locs1 cells slots Q (F0 m (pc + 1) lsA rest)) : W p l e R s m args below meth c H locs cells slots Q (F0 m pc lsA (.ref (sz + v) :: .int i :: .ref (sz + a) :: rest)) := by
  have hlt : i.toNatClampNeg < n := Nat.not_le.mp fun q => hin (Or.inr q)
  have h0 : ¬ i < 0 := fun q => hin (Or.inl q)
  have hc := hH.1 a _ (g_ws_at ha)
  obtain ⟨r', hr', cellV, g1, g2, g3, -⟩ := hH.1 v _ (g_ws_at hv)
  have hcls := (hSt.1.1 9 (RX9, TX9, 5) rfl).2
  obtain ⟨kA, comp, k1, k2, k3, -⟩ := (hSt.1.2 3 _ (g_tys_at hSt (by decide))).2
  have hcomp : comp = D.1 9 := Option.some.inj (k3.symm.trans hcls.1)
  subst hcomp
  obtain ⟨kC, hkC, -⟩ := hcls.2
  refine W.aast hx hb hc (fun q h => by cases h) (fun h => by cases h) k1 k2 rfl hkC ⟨h0, by show _ < (arrV _ _ _).slots.size; rw [arrV_size]; exact hlt⟩ g1 (fun q h => by rw [g3] at h; cases h) (by rw [g2]; exact hkC) (by rw [g2]; exact va_assign hcls) rfl rfl hdg fun H1 e z oq => ?_
  refine kk H1 _ (g_Hp_set hH ha ?_ z oq) (g_aS hS z oq)
  show H1[sz + a]? = some (vp_cell _ _)
  rw [e, vp_cell_q, vp_cell_q, arrV_store]
  congr 2
  funext q
  by_cases hq : q = i.toNatClampNeg
  · subst hq
    simp [updV, va_up, va_rf, g_ad]
  · simp [updV, va_up, hq]
set_option maxHeartbeats 1000000 in
theorem g_put_ok (hx : p.tables.exec = Jvm.exec) (hb : c.code = code) (hown : s.vm.findClass own = some m.cls) (hts : ∀ w ∈ g_wk, w.before args s = true) (hcl : g_clsIn) (hSt : g_St D dA s) (hH : g_Hp D b sz dA σ H) (hS0 : va_S (g_A sz) s.heap H locs) {a ci y i : Nat} {fs : List Value} (ha : σ[a]? = some (.inr (ci, fs))) {v : Value} (hl : y < fs.length) (hn : narrow (g_ty ci y) v = v) (hfit : fits (g_ty ci y) v = true) (hdg : decode code pc = .ok (.putfield i, 3)) (hlk : g_lkp own meth.name i ci y)
    (kk : ∀ (H1 : Heap) (locs1 : List Loc), g_Hp D b sz dA (σ.set a (.inr (ci, fs.set y v))) H1 → va_S (g_A sz) s.heap H1 locs1 → W p l e R s m args below meth c H1 locs1 cells slots Q (F0 m (pc + 3) lsA rest)) : W p l e R s m args below meth c H locs cells slots Q (F0 m pc lsA (g_cv b sz v :: .ref (sz + a) :: rest)) := by
  obtain ⟨C, T, N, hc, hk, hdecl, hl2⟩ := hlk
  obtain ⟨hty, hnm, -⟩ := g_cls_ty ci C T N hc
  have hin := hcl ci C T N hc
  have hap := va_apart (own := own) hts hin (g_ty ci) hty hnm hSt.1 hc
  obtain ⟨r, h1, cell, q1, q2, q3, q4⟩ := hH.1 a _ (g_ws_at ha)
  have hr : r = (C, T, N) := Option.some.inj (h1.symm.trans hc)
  subst hr
  obtain ⟨hS, hfc, kC, hkC, hkind⟩ := hSt.1.1 ci _ hc
  obtain ⟨cf, kf, fi, f, hi, hsl⟩ := hS y hk
  have hlay := hts _ (hin _ (u_in_lay hk))
  have hst := (u_facts hfc hkC (u_lays hts hin hk) hi).1
  have hi2 : s.fieldFound? C (T y).2.1 (T y).2.2.1 = some (cf, kf, fi, f) := by rw [← hdecl]; exact hi
  have hl' : y < (fs.map (g_cv b sz)).length := by rw [List.length_map]; exact hl
  have fin : ∀ (H' : Heap), H'[sz + a]? = some (cell.setSlot f.slot (g_cv b sz v)) → va_at D vwCl (sz + a, g_ce b sz dA (.inr (ci, fs.set y v))) H' := by
    intro H' e1
    rw [hsl] at e1
    refine ⟨_, hc, ?_⟩
    have e2 := t_OB.to (V := updV (vp_V (fs.map (g_cv b sz))) y (g_cv b sz v)) (V' := vp_V ((fs.map (g_cv b sz)).set y (g_cv b sz v))) ⟨_, e1, q2, q3, t_set q4 hap hk (g_cv b sz v)⟩ (fun j _ => vp_updV_set hl' (g_cv b sz v) j)
    rw [← List.map_set] at e2
    exact e2
  rcases hl2 with ⟨hfin, hl2⟩ | ⟨hfin, hin2, hdo, hlink⟩
  · unfold u_lay at hlay
    rw [if_neg (by rw [hfin]; decide)] at hlay
    have h6 := u_store hfc hkC hkind hlay hi (hty y hk) (g_nar b sz _ v hn) (g_fit b sz _ v hfit)
    rcases hl2 with hlink | ⟨host, hlink⟩
    · refine W.putK hx hb (f := f) ⟨hown, hts _ hlink, ⟨_, _, _, hi2⟩, hst⟩ (by rw [q2]; exact h6) q1 q3 (by rw [hsl]; exact k2_hasslot (q4 y hk)) rfl rfl hdg fun H' e1 e2 e3 => ?_
      exact kk H' _ (g_Hp_set hH ha (fin H' e1) e2 e3) (g_aS hS0 e2 e3)
    · refine va_WputK hx hb (f := f) hown (va_Nw.use rfl (hSt.2.1 _ hlink)) hi2 hst (by rw [q2]; exact h6) q1 q3 (by rw [hsl]; exact k2_hasslot (q4 y hk)) rfl rfl hdg fun H' e1 e2 e3 => ?_
      exact kk H' _ (g_Hp_set hH ha (fin H' e1) e2 e3) (g_aS hS0 e2 e3)
  · unfold u_lay at hlay
    rw [if_pos hfin] at hlay
    have hcf : m.cls = cf := by
      obtain ⟨_, _, c', _, _, _, -, -, hf', -, -, -, hown2, -⟩ := Cond.laysFinal_spec hlay
      have e1 : c' = cf := by have := hi.symm.trans hf'; simp at this; exact this.1.symm
      rw [hdo] at hown2
      rw [← e1]; exact Option.some.inj (hown.symm.trans hown2)
    have h6 := u_fits hfc hkC hkind (Or.inr hlay) hi (hty y hk) (g_nar b sz _ v hn) (g_fit b sz _ v hfit)
    refine W.putFinK hx hb hown (hts _ hlink) hi2 hst hcf hin2 (by rw [q2]; exact h6) q1 q3 (by rw [hsl]; exact k2_hasslot (q4 y hk)) rfl rfl hdg fun H' e1 e2 e3 => ?_
    exact kk H' _ (g_Hp_set hH ha (fin H' e1) e2 e3) (g_aS hS0 e2 e3)
set_option maxHeartbeats 1000000 in
theorem g_get_ok (hx : p.tables.exec = Jvm.exec) (hb : c.code = code) (hown : s.vm.findClass own = some m.cls) (hts : ∀ w ∈ g_wk, w.before args s = true) (hcl : g_clsIn) (hSt : g_St D dA s) (hH : g_Hp D b sz dA σ H) {a ci y i : Nat} {fs : List Value} (ha : σ[a]? = some (.inr (ci, fs))) {v : Value} (hv : fs[y]? = some v) (hdg : decode code pc = .ok (.getfield i, 3)) (hlk : g_lkf own i ci y)
    (kk : W p l e R s m args below meth c H locs cells slots Q (F0 m (pc + 3) lsA (g_cv b sz v :: rest))) : W p l e R s m args below meth c H locs cells slots Q (F0 m pc lsA (.ref (sz + a) :: rest)) := by
  obtain ⟨C, T, N, hc, hk, hdecl, hl2⟩ := hlk
  have hin := hcl ci C T N hc
  have hv' : (fs.map (g_cv b sz))[y]? = some (g_cv b sz v) := by simp [hv]
  rcases hl2 with hlink | ⟨host, hlink⟩
  · exact va_get hx hb hts hin hown hSt.1 hH.1 a (g_ws_at ha) hc y hk (hts _ hlink) (fun q h => by rw [← hdecl]; exact h) hv' hdg kk
  · exact va_getN hx hb hts hin hown hSt.1 hH.1 a (g_ws_at ha) hc y hk (va_Nw.use rfl (hSt.2.1 _ hlink)) (fun q h => by rw [← hdecl]; exact h) hv' hdg kk
set_option maxHeartbeats 1000000 in
theorem g_new_ok (hx : p.tables.exec = Jvm.exec) (hb : c.code = code) (hown : s.vm.findClass own = some m.cls) (hts : ∀ w ∈ g_wk, w.before args s = true) (hcl : g_clsIn) (hSt : g_St D dA s) (hH : g_Hp D b sz dA σ H) (hS : va_S (g_A sz) s.heap H locs) {ci i : Nat} (hlk : g_lkn own i ci) (hdg : decode code pc = .ok (.new i, 3)) (hcells : cells + 1 ≤ R.cells) (hslots : slots + g_nf ci ≤ R.slots)
    (kk : ∀ (H1 : Heap) (locs1 : List Loc), g_Hp D b sz dA (σ ++ [.inr (ci, g_df ci)]) H1 → va_S (g_A sz) s.heap H1 locs1 → W p l e R s m args below meth c H1 locs1 (cells + 1) (slots + g_nf ci) Q (F0 m (pc + 3) lsA (.ref (sz + σ.length) :: rest))) : W p l e R s m args below meth c H locs cells slots Q (F0 m pc lsA rest) := by
  obtain ⟨C, T, N, hc, h1, h2, h3⟩ := hlk
  obtain ⟨hty, hnm, hN⟩ := g_cls_ty ci C T N hc
  subst hN
  have hin := hcl ci C T _ hc
  have hKn := hSt.1.1 ci _ hc
  refine W.newcK hx hb hown (hts _ h1) (hts _ h2) (hts _ h3) rfl hdg hcells hslots hKn.2.1 rfl fun H1 kC hkC e1 z1 o1 => ?_
  have hz := hH.2
  refine W.eq (g2 := F0 m (pc + 3) lsA (.ref (sz + σ.length) :: rest)) (by rw [← hz]) (kk H1 _ (g_Hp_app hH ?_ z1 o1) (g_nS hS z1 o1))
  rw [hz] at e1
  refine ⟨_, hc, (u_born (g_ty ci) hts hin hKn hkC e1 hty).to (fun j hj => ?_)⟩
  have hj' : j < g_nf ci := hj
  have e9 : ∀ v : Value, g_cv b sz (defaultValue (g_ty ci j)) = defaultValue (g_ty ci j) := fun _ => by cases g_ty ci j <;> rfl
  simp [vp_V, g_df, List.getD, hj', e9 .null]
set_option maxHeartbeats 1000000 in
theorem g_newa_ok (hx : p.tables.exec = Jvm.exec) (hb : c.code = code) (hts : ∀ w ∈ g_wk, w.before args s = true) (hSt : g_St D dA s) (hH : g_Hp D b sz dA σ H) (hS : va_S (g_A sz) s.heap H locs) {t : ArrayType} {k : Nat} (hk : g_tag t = some k) (hlk : Cond.arrayClass (newarray.typeOf t) ∈ g_wk) (hdg : decode code pc = .ok (.newarray t, 2)) {n : Int32} (hn : ¬ n < 0) (hb2 : n.toNatClampNeg ≤ 100000) (hcells : cells + 1 ≤ R.cells) (hslots : slots + n.toNatClampNeg ≤ R.slots)
    (kk : ∀ (H1 : Heap) (locs1 : List Loc), g_Hp D b sz dA (σ ++ [.inl (k, n.toNatClampNeg, .inl (fun _ => 0))]) H1 → va_S (g_A sz) s.heap H1 locs1 → W p l e R s m args below meth c H1 locs1 (cells + 1) (slots + n.toNatClampNeg) Q (F0 m (pc + 2) lsA (.ref (sz + σ.length) :: rest))) : W p l e R s m args below meth c H locs cells slots Q (F0 m pc lsA (.int n :: rest)) := by
  have hz := hH.2
  have hby : n.toNatClampNeg * componentBytes (newarray.typeOf t) ≤ 536870912 := by
    have : componentBytes (newarray.typeOf t) ≤ 8 := by cases t <;> decide
    have := Nat.mul_le_mul hb2 this
    omega
  refine va_newaK hx hb (hts _ hlk) rfl hdg rfl hn rfl hby hcells hslots rfl fun H1 cA e1 z1 o1 hAr hNm => ?_
  refine W.eq (g2 := F0 m (pc + 2) lsA (.ref (sz + σ.length) :: rest)) (by rw [← hz]) (kk H1 _ (g_Hp_app hH ?_ z1 o1) (g_nS hS z1 o1))
  rw [hz] at e1
  show H1[sz + σ.length]? = some (vp_cell _ _)
  rw [e1]
  have f0 := (hSt.1.2 0 _ (g_tys_at hSt (by decide))).2
  have f1 := (hSt.1.2 1 _ (g_tys_at hSt (by decide))).2
  have f2 := (hSt.1.2 2 _ (g_tys_at hSt (by decide))).2
  cases t <;> cases hk
  · have : cA = dA 2 := Option.some.inj (hNm.symm.trans f2)
    rw [this]; rfl
  · have : cA = dA 1 := Option.some.inj (hNm.symm.trans f1)
    rw [this]; rfl
  · have : cA = dA 0 := Option.some.inj (hNm.symm.trans f0)
    rw [this]; rfl
set_option maxHeartbeats 1000000 in
theorem g_newq_ok (hx : p.tables.exec = Jvm.exec) (hb : c.code = code) (hown : s.vm.findClass own = some m.cls) (hts : ∀ w ∈ g_wk, w.before args s = true) (hSt : g_St D dA s) (hH : g_Hp D b sz dA σ H) (hS : va_S (g_A sz) s.heap H locs) {i : Nat} (hlk : Cond.classLink own i "GustHome$Ward" ∈ g_wk) (hdg : decode code pc = .ok (.anewarray i, 3)) {n : Int32} (hn : ¬ n < 0) (hb2 : n.toNatClampNeg ≤ 100000) (hcells : cells + 1 ≤ R.cells) (hslots : slots + n.toNatClampNeg ≤ R.slots)
    (kk : ∀ (H1 : Heap) (locs1 : List Loc), g_Hp D b sz dA (σ ++ [.inl (3, n.toNatClampNeg, .inr (fun _ => none))]) H1 → va_S (g_A sz) s.heap H1 locs1 → W p l e R s m args below meth c H1 locs1 (cells + 1) (slots + n.toNatClampNeg) Q (F0 m (pc + 3) lsA (.ref (sz + σ.length) :: rest))) : W p l e R s m args below meth c H locs cells slots Q (F0 m pc lsA (.int n :: rest)) := by
  have hz := hH.2
  refine W.anew hx hb hown (hts _ hlk) (va_AO.use hSt.2.2) rfl hdg rfl hn (by omega) hcells hslots fun cA kA comp f1 f2 f3 f4 => ?_
  generalize hH1 : H.push ({ cls := cA, slots := Array.replicate n.toNatClampNeg .null, vm := .none } : Cell) = H1
  have z1 : H1.size = H.size + 1 := by rw [← hH1, Array.size_push]
  have e1 : H1[H.size]? = some (arrV cA n.toNatClampNeg (fun _ => .null)) := by rw [← hH1, Array.getElem?_push_size, ← arrV_new]
  have o1 : ∀ q : Nat, q < H.size → H1[q]? = H[q]? := fun q hq => by rw [← hH1, Array.getElem?_push, if_neg (Nat.ne_of_lt hq)]
  refine W.eq (g2 := F0 m (pc + 3) lsA (.ref (sz + σ.length) :: rest)) (by rw [← hz]) (kk H1 _ (g_Hp_app hH ?_ z1 o1) (g_nS hS z1 o1))
  rw [hz] at e1
  show H1[sz + σ.length]? = some (vp_cell _ _)
  rw [e1]
  obtain ⟨kA', comp', k1, k2, k3, k4⟩ := (hSt.1.2 3 _ (g_tys_at hSt (by decide))).2
  have : cA = dA 3 := Option.some.inj (f1.symm.trans k4)
  rw [this]
  rfl
set_option maxHeartbeats 1000000 in
theorem g_copy_ok (hx : p.tables.exec = Jvm.exec) (hb : c.code = code) (hml : c.maxLocals = lsA.size) (hown : s.vm.findClass own = some m.cls) (hts : ∀ w ∈ g_wk, w.before args s = true) (hSt : g_St D dA s) (hH : g_Hp D b sz dA σ H) (hS : va_S (g_A sz) s.heap H locs) {a a0 n0 n1 i : Nat} {f g : Nat → Int32} (ha0 : σ[a0]? = some (.inl (0, n0, .inl f))) (ha1 : σ[a]? = some (.inl (0, n1, .inl g)))
    {sp dp n : Int32} (h1 : ¬ sp < 0) (h2 : ¬ dp < 0) (h3 : ¬ n < 0) (h4 : sp.toNatClampNeg + n.toNatClampNeg ≤ n0) (h5 : dp.toNatClampNeg + n.toNatClampNeg ≤ n1) (hlk : Cond.methodLink own i arraycopyName ∈ g_wk ∧ Cond.native arraycopyName ∈ g_wk ∧ Cond.static arraycopyName ∈ g_wk ∧ Cond.initialized "java/lang/System" ∈ g_wk)
    (hframes : 1 ≤ R.frames) (hlocals : (rest.map fun v => v.category).sum + (nativeFrameWords "java/lang/System" "arraycopy" 5 + 11) ≤ R.locals) (hdg : decode code pc = .ok (.invokestatic i, 3))
    (kk : ∀ (H1 : Heap) (locs1 : List Loc), g_Hp D b sz dA (σ.set a (.inl (0, n1, .inl (va_cpy f g sp.toNatClampNeg dp.toNatClampNeg n.toNatClampNeg)))) H1 → va_S (g_A sz) s.heap H1 locs1 → W p l e R s m args below meth c H1 locs1 cells slots Q (F0 m (pc + 3) lsA rest)) : W p l e R s m args below meth c H locs cells slots Q (F0 m pc lsA (.int n :: .int dp :: .ref (sz + a) :: .int sp :: .ref (sz + a0) :: rest)) := by
  have nn : ∀ z : Int32, ¬ z < 0 → z.toInt = (z.toNatClampNeg : Int) := by
    intro z hz
    have hz0 : (0 : Int) ≤ z.toInt := by
      have := Int32.not_lt.mp hz
      simpa using Int32.le_iff_toInt_le.mp this
    show z.toInt = ((z.toInt.toNat : Nat) : Int)
    omega
  intro T hT X
  have hc0 : H[sz + a0]? = some (vp_cell (dA 0) (n0, .inl f)) := hH.1 a0 _ (g_ws_at ha0)
  have hc1 : H[sz + a]? = some (vp_cell (dA 0) (n1, .inl g)) := hH.1 a _ (g_ws_at ha1)
  have hT0 := (hSt.1.2 0 _ (g_tys_at hSt (by decide))).1
  obtain ⟨-, k0, hk0, cm0, hkk0⟩ := hT0 n0 (fun j => .int (f j))
  obtain ⟨-, k1, hk1, cm1, hkk1⟩ := hT0 n1 (fun j => .int (g j))
  obtain ⟨vm', X', step⟩ := X.arraycopy hx hown (hts _ hlk.1) (hts _ hlk.2.1) (hts _ hlk.2.2.1) (hts _ hlk.2.2.2) (src := sz + a0) (dst := sz + a) (cs := vp_cell (dA 0) (n0, .inl f)) (cd := vp_cell (dA 0) (n1, .inl g)) (srcPos := sp) (destPos := dp) (n := n) (by rw [hT]; exact hc0) (by rw [hT]; exact hc1)
    (fun _ h => by cases h) (fun _ h => by cases h) (fun h => by cases h) (fun h => by cases h) hk0 hk1 hkk0 hkk1 (by rfl) h1 h2 h3
    (by rw [nn sp h1, nn n h3]; show ¬ _ > ((arrV (dA 0) n0 (fun j => .int (f j))).slots.size : Int); rw [arrV_size]; omega)
    (by rw [nn dp h2, nn n h3]; show ¬ _ > ((arrV (dA 0) n1 (fun j => .int (g j))).slots.size : Int); rw [arrV_size]; omega)
    (fun vm₁ _ i hi => by
      have e : (vp_cell (dA 0) (n0, .inl f)).slots.getD (sp.toNatClampNeg + i) .null = .int (f (sp.toNatClampNeg + i)) := by
        show (arrV (dA 0) n0 (fun j => .int (f j))).slots.getD _ _ = _
        rw [Array.getD_eq_getD_getElem?, arrV_read _ _ (by omega)]
        rfl
      refine ⟨?_, ?_⟩
      · rw [e]
        rfl
      · rw [e]
        exact trivial)
    (g := F0 m pc lsA (.int n :: .int dp :: .ref (sz + a) :: .int sp :: .ref (sz + a0) :: rest)) rfl (by rw [hml]) (rest := rest) rfl (by rw [hb]; exact hdg) hframes (by show 2 * 0 + _ + _ ≤ _; omega)
  have e1 : copied (vp_cell (dA 0) (n0, .inl f)) (vp_cell (dA 0) (n1, .inl g)) sp dp n = vp_cell (dA 0) (n1, .inl (va_cpy f g sp.toNatClampNeg dp.toNatClampNeg n.toNatClampNeg)) := va_copied (fun z => .int z) (dA 0) (dA 0) f g h4
  rw [e1] at X' step
  have hl : sz + a < H.size := (Array.getElem?_eq_some_iff.mp hc1).1
  have hheap : ((T.setVm vm').setCell (sz + a) (vp_cell (dA 0) (n1, .inl (va_cpy f g sp.toNatClampNeg dp.toNatClampNeg n.toNatClampNeg)))).heap = H.setIfInBounds (sz + a) (vp_cell (dA 0) (n1, .inl (va_cpy f g sp.toNatClampNeg dp.toNatClampNeg n.toNatClampNeg))) := by rw [← hT]; rfl
  have oq : ∀ q : Nat, q ≠ sz + a → (H.setIfInBounds (sz + a) (vp_cell (dA 0) (n1, .inl (va_cpy f g sp.toNatClampNeg dp.toNatClampNeg n.toNatClampNeg))))[q]? = H[q]? := fun q hq => by simp [Array.getElem?_setIfInBounds, Ne.symm hq]
  obtain ⟨t, a1, b1⟩ := kk _ _ (g_Hp_set hH ha1 (show (H.setIfInBounds (sz + a) _)[sz + a]? = some _ by simp [Array.getElem?_setIfInBounds, hl]) (by simp) oq) ⟨by simp; exact hS.1, fun q g1 g2 => by
      rw [oq q (fun e => g2 (by rw [e]; exact Nat.le_add_right sz a))]
      exact hS.2.1 q g1 g2, fun q hq => by
      rcases List.mem_append.mp hq with h | h
      · exact hS.2.2 q h
      · obtain ⟨z, -, hz⟩ := List.mem_map.mp h
        rw [← hz]
        exact Nat.le_add_right sz a⟩ _ hheap X'
  exact ⟨t, step t a1, b1⟩
end GH
end
section
theorem g_out_in {i : Int32} {n : Nat} (h : g_out i n = false) : vp_in i n := by
  unfold g_out at h
  exact of_decide_eq_false h
theorem g_rf_cv (b sz : Nat) (o : Option Nat) : va_rf (o.map (g_ad b sz)) = g_cv b sz (va_rf o) := by cases o <;> rfl
def g_sw (ins : Instr) : Bool := match ins with
  | .tableswitch _ _ _ _ => true
  | .lookupswitch _ _ => true
  | _ => false
theorem g_stk_sw {ins : Instr} {z : Int} {st st' : List Value} (h : g_stk ins z st = some st') : g_sw ins = false := by
  unfold g_stk at h
  split at h <;> first | rfl | cases h
theorem g_lcl_sw {nL : Nat} {ins : Instr} {ls : g_Lc} {st : List Value} {q : g_Lc × List Value} (h : g_lcl nL ins ls st = some q) : g_sw ins = false := by
  unfold g_lcl at h
  split at h <;> first | rfl | cases h
theorem g_hp_sw {d L : Nat} {xs : Nat → Int32} {ins : Instr} {x y : Nat} {st : List Value} {σ : List g_Ce} {q : List Value × List g_Ce} (h : g_hp d L xs ins x y st σ = some q) : g_sw ins = false := by
  unfold g_hp at h
  split at h <;> first | rfl | cases h
def g_grow (σ σ' : List g_Ce) : Prop := σ.length ≤ σ'.length ∧ g_sl σ ≤ g_sl σ'
theorem g_grow_rf (σ : List g_Ce) : g_grow σ σ := ⟨Nat.le_refl _, Nat.le_refl _⟩
theorem g_grow_tr {a b c : List g_Ce} (h1 : g_grow a b) (h2 : g_grow b c) : g_grow a c := ⟨Nat.le_trans h1.1 h2.1, Nat.le_trans h1.2 h2.2⟩
theorem g_grow_set {σ : List g_Ce} {k : Nat} {c0 c : g_Ce} (h : σ[k]? = some c0) (hz : g_sz c0 = g_sz c) : g_grow σ (σ.set k c) := ⟨by simp, by rw [g_sl_set σ k c0 c h hz]; exact Nat.le_refl _⟩
theorem g_grow_app (σ : List g_Ce) (c : g_Ce) : g_grow σ (σ ++ [c]) := ⟨by simp, by rw [g_sl_app]; omega⟩
section GP
variable {p : Program} {l : Launch} {e : Env} {R : Room} {s : State} {m : MethodId} {args : Array Value} {below : List Frame} {meth : Method} {c : Code} {H : Heap} {locs : List Loc} {cells slots : Nat} {Q : State → Prop}
variable {code : ByteArray} {pc len d nL L : Nat} {xs : Nat → Int32} {lsA : Array Slot} {ls ls' : g_Lc} {ins : Instr} {z : Int} {st st' : List Value} {b sz x y : Nat} {own : String} {D : va_G} {dA : Nat → ClassId} {σ : List g_Ce}
theorem g_same (hH : g_Hp D b sz dA σ H) (hS : va_S (g_A sz) s.heap H locs) {g : JFrame}
    (kk : ∀ (H1 : Heap) (locs1 : List Loc), g_Hp D b sz dA σ H1 → va_S (g_A sz) s.heap H1 locs1 → W p l e R s m args below meth c H1 locs1 (cells + (σ.length - σ.length)) (slots + (g_sl σ - g_sl σ)) Q g) : W p l e R s m args below meth c H locs cells slots Q g := by
  have h := kk H locs hH hS
  rw [Nat.sub_self, Nat.sub_self] at h
  exact h
theorem g_sets {k : Nat} {c0 c1 : g_Ce} (hk : σ[k]? = some c0) (hz : g_sz c0 = g_sz c1) {g : JFrame}
    (kk : ∀ (H1 : Heap) (locs1 : List Loc), g_Hp D b sz dA (σ.set k c1) H1 → va_S (g_A sz) s.heap H1 locs1 → W p l e R s m args below meth c H1 locs1 (cells + ((σ.set k c1).length - σ.length)) (slots + (g_sl (σ.set k c1) - g_sl σ)) Q g) :
    ∀ (H1 : Heap) (locs1 : List Loc), g_Hp D b sz dA (σ.set k c1) H1 → va_S (g_A sz) s.heap H1 locs1 → W p l e R s m args below meth c H1 locs1 cells slots Q g := by
  intro H1 locs1 h1 h2
  have h := kk H1 locs1 h1 h2
  rw [List.length_set, g_sl_set σ k c0 c1 hk hz, Nat.sub_self, Nat.sub_self] at h
  exact h
theorem g_apps {c1 : g_Ce} {g : JFrame}
    (kk : ∀ (H1 : Heap) (locs1 : List Loc), g_Hp D b sz dA (σ ++ [c1]) H1 → va_S (g_A sz) s.heap H1 locs1 → W p l e R s m args below meth c H1 locs1 (cells + ((σ ++ [c1]).length - σ.length)) (slots + (g_sl (σ ++ [c1]) - g_sl σ)) Q g) :
    ∀ (H1 : Heap) (locs1 : List Loc), g_Hp D b sz dA (σ ++ [c1]) H1 → va_S (g_A sz) s.heap H1 locs1 → W p l e R s m args below meth c H1 locs1 (cells + 1) (slots + g_sz c1) Q g := by
  intro H1 locs1 h1 h2
  have h := kk H1 locs1 h1 h2
  rw [g_sl_app, List.length_append, List.length_singleton, Nat.add_sub_cancel_left, Nat.add_sub_cancel_left] at h
  exact h
set_option maxHeartbeats 4000000 in
theorem g_hp_ok {q : List Value × List g_Ce} (hx : p.tables.exec = Jvm.exec) (hb : c.code = code) (hml : c.maxLocals = nL) (hlA : lsA.size = nL) (hown : s.vm.findClass own = some m.cls) (hts : ∀ w ∈ g_wk, w.before args s = true) (hcl : g_clsIn) (hSt : g_St D dA s) (hX : va_X b L xs s s.heap) (hbs : b < sz) (hsz : sz ≤ s.heap.size) (hH : g_Hp D b sz dA σ H) (hS : va_S (g_A sz) s.heap H locs) (hdg : decode code pc = .ok (ins, len)) (hlen : len = g_len ins) (hlk : g_lkh own meth.name x y ins)
    (hd1 : d ≤ R.frames) (hd2 : d * 64 ≤ R.locals) (h : g_hp d L xs ins x y st σ = some q) (hr1 : cells + (q.2.length - σ.length) ≤ R.cells) (hr2 : slots + (g_sl q.2 - g_sl σ) ≤ R.slots)
    (kk : ∀ (H1 : Heap) (locs1 : List Loc), g_Hp D b sz dA q.2 H1 → va_S (g_A sz) s.heap H1 locs1 → W p l e R s m args below meth c H1 locs1 (cells + (q.2.length - σ.length)) (slots + (g_sl q.2 - g_sl σ)) Q (F0 m (pc + len) lsA (q.1.map (g_cv b sz)))) : W p l e R s m args below meth c H locs cells slots Q (F0 m pc lsA (st.map (g_cv b sz))) ∧ g_grow σ q.2 := by
  subst hlen
  unfold g_hp at h
  split at h
  · unfold g_gf at h
    split at h
    · split at h
      · rename_i hσ
        simp only [cond_eq_ite, beq_iff_eq] at h
        split at h
        · rename_i hc
          split at h
          · rename_i hv
            cases h
            subst hc
            exact ⟨g_get_ok hx hb hown hts hcl hSt hH hσ hv hdg hlk (g_same hH hS kk), g_grow_rf σ⟩
          · cases h
        · cases h
      · cases h
    · cases h
  · unfold g_pf at h
    split at h
    · split at h
      · rename_i hσ
        split at h
        · rename_i hc
          cases h
          obtain ⟨rfl, h1, h2, h3⟩ := hc
          exact ⟨g_put_ok hx hb hown hts hcl hSt hH hS hσ h1 h2 h3 hdg hlk (g_sets hσ (by rfl) kk), g_grow_set hσ (by rfl)⟩
        · cases h
      · cases h
    · cases h
  · cases h
    have hr1' : cells + 1 ≤ R.cells := by simpa using hr1
    have hr2' : slots + g_nf x ≤ R.slots := by
      have := hr2
      rw [g_sl_app, Nat.add_sub_cancel_left] at this
      exact this
    exact ⟨g_new_ok hx hb hown hts hcl hSt hH hS hlk hdg hr1' hr2' (g_apps kk), g_grow_app _ _⟩
  · unfold g_na at h
    split at h
    · split at h
      · rename_i hk
        split at h
        · rename_i hc
          cases h
          have hr1' : cells + 1 ≤ R.cells := by simpa using hr1
          have hr2' := hr2
          rw [g_sl_app, Nat.add_sub_cancel_left] at hr2'
          exact ⟨g_newa_ok hx hb hts hSt hH hS hk hlk hdg hc.1 hc.2 hr1' hr2' (g_apps kk), g_grow_app _ _⟩
        · cases h
      · cases h
    · cases h
  · unfold g_an at h
    split at h
    · split at h
      · rename_i hc
        cases h
        have hr1' : cells + 1 ≤ R.cells := by simpa using hr1
        have hr2' := hr2
        rw [g_sl_app, Nat.add_sub_cancel_left] at hr2'
        exact ⟨g_newq_ok hx hb hown hts hSt hH hS hlk hdg hc.1 hc.2 hr1' hr2' (g_apps kk), g_grow_app _ _⟩
      · cases h
    · cases h
  · unfold g_al at h
    split at h
    · cases h
      exact ⟨va_slen (b := b) hx hb hX (Nat.lt_of_lt_of_le hbs hsz) (show ¬ sz ≤ b by omega) hS hdg (g_same hH hS kk), g_grow_rf σ⟩
    · split at h
      · rename_i hσ
        split at h
        · rename_i ht
          cases h
          rename_i fz
          refine ⟨?_, g_grow_rf σ⟩
          cases fz
          · exact va_alen hx hb hSt.1 hH.1 _ _ (g_ws_at hσ) (g_tys_at hSt ht) rfl hdg (g_same hH hS kk)
          · exact va_alen hx hb hSt.1 hH.1 _ _ (g_ws_at hσ) (g_tys_at hSt ht) rfl hdg (g_same hH hS kk)
        · cases h
      · cases h
    · cases h
  · unfold g_ia at h
    split at h
    · rename_i i r
      cases hg : g_out i L <;> simp [hg] at h
      subst h
      exact ⟨va_sld (b := b) hx hb hX (Nat.lt_of_lt_of_le hbs hsz) (show ¬ sz ≤ b by omega) hS (g_out_in hg) hdg (g_same hH hS kk), g_grow_rf σ⟩
    · rename_i i a r
      split at h
      · rename_i n f hσ
        cases hg : g_out i n <;> simp [hg] at h
        subst h
        exact ⟨va_iald hx hb hSt.1 hH.1 _ 0 (g_ws_at hσ) (g_tys_at hSt (by decide)) (g_out_in hg) hdg (g_same hH hS kk), g_grow_rf σ⟩
      · cases h
    · cases h
  · unfold g_ba at h
    split at h
    · rename_i i a r
      split at h
      · rename_i n f hσ
        cases hg : g_out i n <;> simp [hg] at h
        subst h
        exact ⟨va_bald hx hb hSt.1 hH.1 _ 1 (g_ws_at hσ) (g_tys_at hSt (by decide)) (g_out_in hg) hdg (g_same hH hS kk), g_grow_rf σ⟩
      · rename_i n f hσ
        cases hg : g_out i n <;> simp [hg] at h
        subst h
        exact ⟨va_zald hx hb hSt.1 hH.1 _ 2 (g_ws_at hσ) (g_tys_at hSt (by decide)) (g_out_in hg) hdg (g_same hH hS kk), g_grow_rf σ⟩
      · cases h
    · cases h
  · unfold g_aa at h
    split at h
    · rename_i i a r
      split at h
      · rename_i n f hσ
        cases hg : g_out i n <;> simp [hg] at h
        subst h
        refine ⟨va_aldq hx hb hSt.1 hH.1 _ 3 (g_ws_at hσ) (g_tys_at hSt (by decide)) (g_out_in hg) hdg ?_, g_grow_rf σ⟩
        have h9 := g_same hH hS kk
        rw [List.map_cons, ← g_rf_cv] at h9
        exact h9
      · cases h
    · cases h
  · unfold g_is at h
    split at h
    · rename_i v i a r
      split at h
      · rename_i n f hσ
        cases hg : g_out i n <;> simp [hg] at h
        subst h
        exact ⟨g_iast_ok hx hb hSt hH hS hσ (g_out_in hg) hdg (g_sets hσ (by rfl) kk), g_grow_set hσ (by rfl)⟩
      · cases h
    · cases h
  · unfold g_bs at h
    split at h
    · rename_i v i a r
      split at h
      · rename_i n f hσ
        cases hg : g_out i n <;> simp [hg] at h
        subst h
        exact ⟨g_bast_ok hx hb hSt hH hS hσ (g_out_in hg) hdg (g_sets hσ (by rfl) kk), g_grow_set hσ (by rfl)⟩
      · rename_i n f hσ
        cases hg : g_out i n <;> simp [hg] at h
        subst h
        exact ⟨g_zast_ok hx hb hSt hH hS hσ (g_out_in hg) hdg (g_sets hσ (by rfl) kk), g_grow_set hσ (by rfl)⟩
      · cases h
    · cases h
  · unfold g_as at h
    split at h
    · rename_i v i a r
      split at h
      · rename_i n f hσ
        split at h
        · rename_i vs hv
          cases hg : g_out i n <;> simp [hg] at h
          subst h
          exact ⟨g_aast_ok hx hb hSt hH hS hσ hv (g_out_in hg) hdg (g_sets hσ (by rfl) kk), g_grow_set hσ (by rfl)⟩
        · cases h
      · cases h
    · cases h
  · have hct : ∀ r : List Value, ((r.map (g_cv b sz)).map fun v => v.category).sum = g_cat r := by
      intro r
      simp only [g_cat, List.map_map]
      congr 2
      funext v
      exact g_cv_cat b sz v
    unfold g_nv at h
    simp only [cond_eq_ite, beq_iff_eq] at h
    split at h
    · rename_i hc
      unfold g_cp at h
      split at h
      · split at h
        · rename_i hσ0
          split at h
          · rename_i hσ1
            split at h
            · rename_i hq
              obtain ⟨h1, h2, h3, h4, h5, h6, h7⟩ := hq
              cases h
              refine ⟨g_copy_ok hx hb (hml.trans hlA.symm) hown hts hSt hH hS hσ0 hσ1 h1 h2 h3 h4 h5 (hlk.1 hc) (by omega) ?_ hdg (g_sets hσ1 (by rfl) kk), g_grow_set hσ1 (by rfl)⟩
              rw [hct]
              have e2 : nativeFrameWords "java/lang/System" "arraycopy" 5 = 7 := by decide +kernel
              rw [e2]
              have : 64 ≤ d * 64 := by omega
              omega
            · cases h
          · cases h
        · cases h
      · cases h
    · split at h
      · rename_i hc
        unfold g_m2 at h
        split at h
        · split at h
          · rename_i hq
            cases h
            obtain ⟨w1, w2, -, -⟩ := hlk.2 (Or.inl hc)
            obtain ⟨u1, u2, u3⟩ := w2 hc
            have j1 : 64 ≤ d * 64 := by omega
            have j2 : 1 ≤ R.frames := by omega
            have j3 : cells ≤ R.cells := by omega
            have j4 : slots ≤ R.slots := by omega
            refine ⟨va_mmax hx hb (hml.trans hlA.symm) hown (hts _ u1) (hts _ u2) (hts _ w1) (hts _ u3) j2 ?_ j3 j4 hdg (g_same hH hS kk), g_grow_rf σ⟩
            rw [hct]
            omega
          · cases h
        · cases h
      · split at h
        · rename_i hc
          unfold g_m2 at h
          split at h
          · split at h
            · rename_i hq
              cases h
              obtain ⟨w1, -, w2, -⟩ := hlk.2 (Or.inr (Or.inl hc))
              obtain ⟨u1, u2, u3⟩ := w2 hc
              have j1 : 64 ≤ d * 64 := by omega
              have j2 : 1 ≤ R.frames := by omega
              have j3 : cells ≤ R.cells := by omega
              have j4 : slots ≤ R.slots := by omega
              refine ⟨va_mmin hx hb (hml.trans hlA.symm) hown (hts _ u1) (hts _ u2) (hts _ w1) (hts _ u3) j2 ?_ j3 j4 hdg (g_same hH hS kk), g_grow_rf σ⟩
              rw [hct]
              omega
            · cases h
          · cases h
        · split at h
          · rename_i hc
            unfold g_m1 at h
            split at h
            · split at h
              · rename_i hq
                cases h
                obtain ⟨w1, -, -, w2⟩ := hlk.2 (Or.inr (Or.inr hc))
                obtain ⟨u1, u2, u3⟩ := w2 hc
                have j1 : 64 ≤ d * 64 := by omega
                have j2 : 1 ≤ R.frames := by omega
                have j3 : cells ≤ R.cells := by omega
                have j4 : slots ≤ R.slots := by omega
                refine ⟨va_mabs hx hb (hml.trans hlA.symm) hown (hts _ u1) (hts _ u2) (hts _ w1) (hts _ u3) j2 ?_ j3 j4 hdg (g_same hH hS kk), g_grow_rf σ⟩
                rw [hct]
                omega
              · cases h
            · cases h
          · cases h
  · cases h
end GP
end
section
set_option maxHeartbeats 2000000 in
theorem g_hp_grow {d L : Nat} {xs : Nat → Int32} {ins : Instr} {x y : Nat} {st : List Value} {σ : List g_Ce} {q : List Value × List g_Ce} (h : g_hp d L xs ins x y st σ = some q) : g_grow σ q.2 := by
  unfold g_hp at h
  split at h
  · unfold g_gf at h
    repeat' split at h
    all_goals first | (cases h; done) | skip
    all_goals (simp only [cond_eq_ite] at h; split at h <;> first | (cases h; done) | (cases h; exact g_grow_rf σ))
  · unfold g_pf at h
    repeat' split at h
    all_goals first | (cases h; done) | skip
    rename_i hσ _
    cases h
    exact g_grow_set hσ (by rfl)
  · cases h; exact g_grow_app _ _
  · unfold g_na at h
    repeat' split at h
    all_goals first | (cases h; done) | (cases h; exact g_grow_app _ _)
  · unfold g_an at h
    repeat' split at h
    all_goals first | (cases h; done) | (cases h; exact g_grow_app _ _)
  · unfold g_al at h
    repeat' split at h
    all_goals first | (cases h; done) | (cases h; exact g_grow_rf _)
  · unfold g_ia at h
    repeat' split at h
    all_goals first | (cases h; done) | (simp only [cond_eq_ite] at h; split at h <;> first | (cases h; done) | (cases h; exact g_grow_rf _))
  · unfold g_ba at h
    repeat' split at h
    all_goals first | (cases h; done) | (simp only [cond_eq_ite] at h; split at h <;> first | (cases h; done) | (cases h; exact g_grow_rf _))
  · unfold g_aa at h
    repeat' split at h
    all_goals first | (cases h; done) | (simp only [cond_eq_ite] at h; split at h <;> first | (cases h; done) | (cases h; exact g_grow_rf _))
  · unfold g_is at h
    repeat' split at h
    all_goals first | (cases h; done) | (simp only [cond_eq_ite] at h; split at h <;> first | (cases h; done) | (cases h; exact g_grow_set (by assumption) (by rfl)))
  · unfold g_bs at h
    repeat' split at h
    all_goals first | (cases h; done) | (simp only [cond_eq_ite] at h; split at h <;> first | (cases h; done) | (cases h; exact g_grow_set (by assumption) (by rfl)))
  · unfold g_as at h
    repeat' split at h
    all_goals first | (cases h; done) | (simp only [cond_eq_ite] at h; split at h <;> first | (cases h; done) | (cases h; exact g_grow_set (by assumption) (by rfl)))
  · unfold g_nv at h
    simp only [cond_eq_ite] at h
    split at h
    · unfold g_cp at h
      repeat' split at h
      all_goals first | (cases h; done) | skip
      cases h
      exact g_grow_set (by assumption) (by rfl)
    · split at h
      · unfold g_m2 at h
        repeat' split at h
        all_goals first | (cases h; done) | (cases h; exact g_grow_rf _)
      · split at h
        · unfold g_m2 at h
          repeat' split at h
          all_goals first | (cases h; done) | (cases h; exact g_grow_rf _)
        · split at h
          · unfold g_m1 at h
            repeat' split at h
            all_goals first | (cases h; done) | (cases h; exact g_grow_rf _)
          · cases h
  · cases h
theorem g_step_grow {d nL L : Nat} {xs : Nat → Int32} {en : g_En} {pc : Nat} {ls : g_Lc} {st : List Value} {σ : List g_Ce} {q : Nat × g_Lc × List Value × List g_Ce} (h : g_step d nL L xs en pc ls st σ = some q) : g_grow σ q.2.2.2 := by
  unfold g_step at h
  split at h
  · cases h; exact g_grow_rf σ
  · split at h
    · cases h; exact g_grow_rf σ
    · split at h
      · cases h; exact g_grow_rf σ
      · split at h
        · rename_i h2
          cases h
          exact g_hp_grow h2
        · cases h
set_option maxHeartbeats 2000000 in
theorem g_run_grow (mt : Nat → Option g_M) (L : Nat) (xs : Nat → Int32) : ∀ (n d : Nat) (M : g_M) (pc : Nat) (ls : g_Lc) (st : List Value) (σ : List g_Ce) (r : Option Value × List g_Ce), g_run mt L xs n d M pc ls st σ = some r → g_grow σ r.2 := by
  intro n
  induction n with
  | zero => intro d M pc ls st σ r h; simp [g_run] at h
  | succ n ih =>
    intro d M pc ls st σ r h
    unfold g_run at h
    split at h
    · split at h
      · exact ih _ _ _ _ _ _ _ h
      · cases h
    · split at h
      · rename_i hs
        exact g_grow_tr (g_step_grow hs) (ih _ _ _ _ _ _ _ h)
      · split at h
        · cases h; exact g_grow_rf σ
        · split at h
          · cases h
          · split at h
            · cases h
            · simp only [cond_eq_ite] at h
              split at h
              · split at h
                · exact ih _ _ _ _ _ _ _ h
                · cases h
              · split at h
                · cases h
                · split at h
                  · cases h
                  · split at h
                    · split at h
                      · cases h
                      · rename_i hw
                        exact g_grow_tr (ih _ _ _ _ _ _ _ hw) (ih _ _ _ _ _ _ _ h)
                    · cases h
def g_lkc0 (own : String) (i : Nat) (M' : g_M) (y : Nat) : Prop := (Cond.methodLink own i M'.2.1 ∈ g_wk ∨ ∃ h, Cond.methodLinkNest own i M'.2.1 h ∈ g_wn) ∧ Cond.initialized M'.2.1.cls ∈ g_wk ∧ (M'.2.1.cls ≠ "java/lang/invoke/MethodHandle" ∧ M'.2.1.cls ≠ "java/lang/invoke/VarHandle" ∧ (parseMethodDescriptor M'.2.1.desc).map (fun d => d.parameters.length) = some y)
def g_lkc (mt : Nat → Option g_M) (own : String) (x y : Nat) (ins : Instr) : Prop := match ins with
  | .invokestatic i => ∀ M', mt x = some M' → g_lkc0 own i M' y ∧ Cond.static M'.2.1 ∈ g_wk
  | .invokevirtual i => ∀ M', mt x = some M' → g_lkc0 own i M' y ∧ Cond.instanceMethod M'.2.1 ∈ g_wk ∧ Cond.selects M'.2.1.cls M'.2.1 M'.2.1 ∈ g_wk
  | .invokespecial i => (x = 99999 → Cond.methodLink own i objectInit ∈ g_wk ∧ Cond.instanceMethod objectInit ∈ g_wk ∧ Cond.code objectInit ⟨#[0xb1]⟩ 1 none ∈ g_wk) ∧ ∀ M', mt x = some M' → g_lkc0 own i M' y ∧ M'.2.1.name = "<init>" ∧ Cond.instanceMethod M'.2.1 ∈ g_wk ∧ M'.2.2.2.2.1 = none
  | _ => True
def g_eOk (mt : Nat → Option g_M) (M : g_M) (pc : Nat) (en : g_En) : Prop := decode M.2.2.1 pc = .ok en.1 ∧ (g_sw en.1.1 = false → en.1.2 = g_len en.1.1) ∧ g_kst M.1 en.2.2.2 en.1.1 ∧ (∀ off, g_off en.1.1 = some off → (pc : Int) + off = (en.2.1 : Int)) ∧ g_lkh M.1 M.2.1.name en.2.1 en.2.2.1 en.1.1 ∧ g_lkc mt M.1 en.2.1 en.2.2.1 en.1.1
def g_Mok (mt : Nat → Option g_M) (M : g_M) : Prop := plainName M.2.1.cls = true ∧ M.2.2.2.1 ≤ 45 ∧ Cond.code M.2.1 M.2.2.1 M.2.2.2.1 M.2.2.2.2.1 ∈ g_wk ∧ M.2.1.cls = M.1 ∧ ∀ pc en, M.2.2.2.2.2 pc = some en → g_eOk mt M pc en
def g_Fx (M : g_M) (D : va_G) (b sz : Nat) (dA : Nat → ClassId) (L : Nat) (xs : Nat → Int32) (p : Program) (s : State) (m : MethodId) (args : Array Value) (meth : Method) (c : Code) : Prop :=
  p.tables.exec = Jvm.exec ∧ c.code = M.2.2.1 ∧ c.maxLocals = M.2.2.2.1 ∧ s.vm.findClass M.1 = some m.cls ∧ (∀ w ∈ g_wk, w.before args s = true) ∧ g_St D dA s ∧ va_X b L xs s s.heap ∧ b < sz ∧ sz ≤ s.heap.size ∧ ((M.2.1.name = "<init>" → meth.name = "<init>") ∧ g_Str sz s)
theorem g_lkh_mn {own m1 m2 : String} (hm : m1 = "<init>" → m2 = "<init>") {x y : Nat} {ins : Instr} (h : g_lkh own m1 x y ins) : g_lkh own m2 x y ins := by
  unfold g_lkh at h ⊢
  split at h
  · exact h
  · obtain ⟨C, T, N, h1, h2, h3, h4⟩ := h
    exact ⟨C, T, N, h1, h2, h3, h4.imp id (fun ⟨a1, a2, a3, a4⟩ => ⟨a1, hm a2, a3, a4⟩)⟩
  · exact h
  · exact h
  · exact h
  · exact h
  · trivial
theorem g_off_len {ins : Instr} {off : Int} (h : g_off ins = some off) : g_sw ins = false ∧ g_len ins = 3 := by
  unfold g_off at h
  split at h <;> first | exact ⟨rfl, rfl⟩ | cases h
section GB
variable {p : Program} {l : Launch} {e : Env} {R : Room} {s : State} {m : MethodId} {args : Array Value} {below : List Frame} {meth : Method} {c : Code} {H : Heap} {locs : List Loc} {cells slots : Nat} {Q : State → Prop}
variable {mt : Nat → Option g_M} {M : g_M} {pc d L : Nat} {xs : Nat → Int32} {lsA : Array Slot} {ls : g_Lc} {st : List Value} {b sz : Nat} {D : va_G} {dA : Nat → ClassId} {σ : List g_Ce} {en : g_En}
set_option maxHeartbeats 2000000 in
theorem g_step_ok {q : Nat × g_Lc × List Value × List g_Ce} (hcl : g_clsIn) (hF : g_Fx M D b sz dA L xs p s m args meth c) (hE : g_eOk mt M pc en) (hl : lv_has lsA M.2.2.2.1 (g_cl2 b sz ls)) (hH : g_Hp D b sz dA σ H) (hS : va_S (g_A sz) s.heap H locs) (hd1 : d ≤ R.frames) (hd2 : d * 64 ≤ R.locals) (h : g_step d M.2.2.2.1 L xs en pc ls st σ = some q) (hr1 : cells + (q.2.2.2.length - σ.length) ≤ R.cells) (hr2 : slots + (g_sl q.2.2.2 - g_sl σ) ≤ R.slots)
    (kk : ∀ (lsB : Array Slot) (H1 : Heap) (locs1 : List Loc), lv_has lsB M.2.2.2.1 (g_cl2 b sz q.2.1) → g_Hp D b sz dA q.2.2.2 H1 → va_S (g_A sz) s.heap H1 locs1 → W p l e R s m args below meth c H1 locs1 (cells + (q.2.2.2.length - σ.length)) (slots + (g_sl q.2.2.2 - g_sl σ)) Q (F0 m q.1 lsB (q.2.2.1.map (g_cv b sz)))) : W p l e R s m args below meth c H locs cells slots Q (F0 m pc lsA (st.map (g_cv b sz))) := by
  obtain ⟨hx, hb, hml, hown, hts, hSt, hX, hbs, hsz, hnm, -⟩ := hF
  obtain ⟨e1, e2, e3, e4, e5, -⟩ := hE
  obtain ⟨⟨ins, len⟩, x, y, z⟩ := en
  dsimp only at e1 e2 e3 e4 e5
  unfold g_step at h
  dsimp only at h
  split at h
  · rename_i h1
    cases h
    exact g_stk_ok hx hb hown hts e1 (e2 (g_stk_sw h1)) e3 h1 (g_same hH hS (fun H1 locs1 h2 h3 => kk lsA H1 locs1 hl h2 h3))
  · split at h
    · rename_i q1 h1
      cases h
      exact g_lcl_ok hx hb e1 (e2 (g_lcl_sw h1)) hl h1 (fun lsB hB => g_same hH hS (fun H1 locs1 h2 h3 => kk lsB H1 locs1 hB h2 h3))
    · split at h
      · rename_i q1 h1
        cases h
        exact g_jmp_ok hx hb e1 (fun off ho => by rw [e2 (g_off_len ho).1, (g_off_len ho).2]) e4 h1 (g_same hH hS (fun H1 locs1 h2 h3 => kk lsA H1 locs1 hl h2 h3))
      · split at h
        · rename_i q1 h1
          cases h
          exact (g_hp_ok hx hb hml hl.1 hown hts hcl hSt hX hbs hsz hH hS e1 (e2 (g_hp_sw h1)) (g_lkh_mn hnm e5) hd1 hd2 h1 hr1 hr2 (fun H1 locs1 h2 h3 => kk lsA H1 locs1 hl h2 h3)).1
        · cases h
end GB
end
section
def g_rmd (d mc ms : Nat) : Room := { frames := d, cells := mc, slots := ms, locals := d * 64 }
def g_wsM (M : g_M) : List Cond := Cond.code M.2.1 M.2.2.1 M.2.2.2.1 M.2.2.2.2.1 :: g_wk
def g_Pc (D : va_G) (b sz : Nat) (dA : Nat → ClassId) (L : Nat) (xs : Nat → Int32) (as : List Value) (σ : List g_Ce) : Array Value → State → Prop := va_Pc (as.map (g_cv b sz)) (fun U => g_Hp D b sz dA σ U.heap ∧ g_St D dA U ∧ va_X b L xs U U.heap ∧ g_Str sz U)
def g_Qc (D : va_G) (b sz : Nat) (dA : Nat → ClassId) (r : Option Value) (σ : List g_Ce) : Array Value → State → Outcome → State → Prop := fun _ st oc t => oc = .returned (r.map (g_cv b sz)) ∧ g_Hp D b sz dA σ t.heap ∧ va_F (g_A sz) st t
theorem g_lvargs (b sz : Nat) : ∀ (as : List Value) (i : Nat), lv_args i (as.map (g_cv b sz)) = g_cl2 b sz (lv_args i as)
  | [], _ => rfl
  | v :: vs, i => by
    show (i, g_cv b sz v) :: lv_args (if (g_cv b sz v).category = 2 then i + 2 else i + 1) (vs.map (g_cv b sz)) = (i, g_cv b sz v) :: g_cl2 b sz (lv_args (if v.category = 2 then i + 2 else i + 1) vs)
    rw [g_cv_cat, g_lvargs b sz vs]
theorem g_lgsl (b sz : Nat) : ∀ (as : List Value), (lg_sl (as.map (g_cv b sz))).length = (lg_sl as).length
  | [] => rfl
  | v :: vs => by
    have h := g_lgsl b sz vs
    simp only [lg_sl, List.map_cons, List.flatMap_cons, List.length_append, g_cv_cat] at h ⊢
    rw [h]
    split <;> rfl
theorem g_catcv (b sz : Nat) (r : List Value) : ((r.map (g_cv b sz)).map fun v => v.category).sum = g_cat r := by
  simp only [g_cat, List.map_map]
  congr 2
  funext v
  exact g_cv_cat b sz v
theorem g_good (M : g_M) (h : Cond.code M.2.1 M.2.2.1 M.2.2.2.1 M.2.2.2.2.1 ∈ g_wk) : GoodIn g_wk (g_wsM M) := by
  have k : ∀ w ∈ g_wk, w ∈ g_wk ∧ ((w.onTables && w.keeps) = true ∨ ∃ ty, w = .arrayClass ty) := fun w hw => ⟨hw, good_of_word (List.mem_filter.mp hw).2⟩
  intro w hw
  rcases List.mem_cons.mp hw with rfl | hw
  · exact k _ h
  · exact k w hw
section GC
variable {p : Program} {l : Launch} {e : Env} {R : Room} {s : State} {m : MethodId} {args : Array Value} {below : List Frame} {meth : Method} {c : Code} {H : Heap} {locs : List Loc} {cells slots : Nat} {Q : State → Prop}
variable {mt : Nat → Option g_M} {M : g_M} {pc d L : Nat} {xs : Nat → Int32} {lsA : Array Slot} {b sz : Nat} {D : va_G} {dA : Nat → ClassId} {σ : List g_Ce}
theorem g_callW {r : Option Value} {σ' : List g_Ce} {a : Array Value} {mc ms : Nat} {st0 rest : List Value} (hr : va_Run p l e R s m args below meth c H locs cells slots mc ms (F0 m pc lsA st0) rest (g_Qc D b sz dA r σ' a) (g_A sz)) (hS : va_S (g_A sz) s.heap H locs)
    (kk : ∀ (H1 : Heap) (locs1 : List Loc), g_Hp D b sz dA σ' H1 → va_S (g_A sz) s.heap H1 locs1 → W p l e R s m args below meth c H1 locs1 (cells + mc) (slots + ms) Q (F0 m (pc + 3) lsA ((r.map (g_cv b sz)).toList ++ rest))) : W p l e R s m args below meth c H locs cells slots Q (F0 m pc lsA st0) := by
  intro T hT X
  obtain ⟨v, st₀, t, T', L, h0, X', hL, e1, e2, ⟨hv, hp, hz, hk⟩, st⟩ := hr T hT X
  cases hv
  rw [h0] at hz hk
  obtain ⟨t2, a1, b1⟩ := kk T'.heap (locs ++ L) (by rw [e1]; exact hp)
    ⟨Nat.le_trans hS.1 (by rw [e1]; exact hz), fun q h1 h2 => by rw [e1, hk q (Nat.lt_of_lt_of_le h1 hS.1) h2]; exact hS.2.1 q h1 h2, fun q hq => by
      rcases List.mem_append.mp hq with h | h
      · exact hS.2.2 q h
      · exact hL q h⟩ T' rfl X'
  exact ⟨t2, st t2 a1, b1⟩
theorem g_X_moved {U : State} (hX : va_X b L xs s s.heap) (hbs : b < sz) (hsz : sz ≤ s.heap.size) (hS : va_S (g_A sz) s.heap H locs) (hU : U.heap = H) (hW : s.WarmedH U.vm) : va_X b L xs U U.heap := by
  obtain ⟨scr, h1, h2, h3, h4, h5⟩ := hX
  exact ⟨scr, by rw [hU, hS.2.1 b (Nat.lt_of_lt_of_le hbs hsz) (show ¬ sz ≤ b by omega)]; exact h1, State.isArrayOf_alike hW.alike h2, h3, h4, h5⟩
theorem g_blind (as : List Value) (σ : List g_Ce) : FrameBlind (g_Pc D b sz dA L xs as σ) := by
  intro a U g mk q
  obtain ⟨q0, q1, ⟨q2, q3, q4⟩, q5, q6⟩ := q
  refine ⟨q0, q1, ⟨va_K.moved (u := U) (U := U.calling g mk a) (Vm.Alike.refl U.vm) q2, g_Nw_same (s := U) (U := U.calling g mk a) rfl q3, va_AO.moved (u := U) (U := U.calling g mk a) (Vm.Alike.refl U.vm) q4⟩, ?_, g_Str_same (s := U) (U := U.calling g mk a) q6 rfl rfl⟩
  obtain ⟨scr, h1, h2, h3, h4, h5⟩ := q5
  exact ⟨scr, h1, State.isArrayOf_alike (s := U) (T := U.calling g mk a) (Vm.Alike.refl U.vm) h2, h3, h4, h5⟩
theorem g_preS {as : List Value} (hSt : g_St D dA s) (hX : va_X b L xs s s.heap) (hbs : b < sz) (hsz : sz ≤ s.heap.size) (hStr : g_Str sz s) (hH : g_Hp D b sz dA σ H) (hS : va_S (g_A sz) s.heap H locs) : PreS s H (g_Pc D b sz dA L xs as σ) (as.map (g_cv b sz)) :=
  ⟨g_blind as σ, fun U hU hW => ⟨rfl, by rw [hU]; exact hH, g_St_warm hW hSt, g_X_moved hX hbs hsz hS hU hW, g_Str_mv hStr hS hU hW⟩⟩
end GC
end
section
/-! String.indexOf(I) over the one constant: the JDK's own rows -/
theorem j_in3 {w : Cond} {j : Nat} (h1 : tables_1_3[j]? = some w) (h2 : goodWord w = true) : w ∈ g_wk := List.mem_filter.mpr ⟨by
  unfold lw_tbl tables_1
  exact List.mem_append_right _ (List.mem_append_right _ (List.mem_append_right _ (List.mem_append_left _ (List.mem_of_getElem? h1)))), h2⟩
theorem j_in1 {w : Cond} {j : Nat} (h1 : tables_1_1[j]? = some w) (h2 : goodWord w = true) : w ∈ g_wk := List.mem_filter.mpr ⟨by
  unfold lw_tbl tables_1
  exact List.mem_append_right _ (List.mem_append_left _ (List.mem_of_getElem? h1)), h2⟩
theorem j_in9 {w : Cond} {j : Nat} (h1 : tables_1_9[j]? = some w) (h2 : goodWord w = true) : w ∈ g_wk := List.mem_filter.mpr ⟨by
  unfold lw_tbl tables_1
  exact List.mem_append_right _ (List.mem_append_right _ (List.mem_append_right _ (List.mem_append_right _ (List.mem_append_right _ (List.mem_append_right _ (List.mem_append_right _ (List.mem_append_right _ (List.mem_append_right _ (List.mem_of_getElem? h1))))))))), h2⟩
def j_ws (y : MethodName) (cc : ByteArray) (n : Nat) (ret : Option FieldType) : List Cond := Cond.code y cc n ret :: g_wk
theorem j_good {y : MethodName} {cc : ByteArray} {n : Nat} {ret : Option FieldType} (h : Cond.code y cc n ret ∈ g_wk) : GoodIn g_wk (j_ws y cc n ret) := by
  have k : ∀ w ∈ g_wk, w ∈ g_wk ∧ ((w.onTables && w.keeps) = true ∨ ∃ ty, w = .arrayClass ty) := fun w hw => ⟨hw, good_of_word (List.mem_filter.mp hw).2⟩
  intro w hw
  rcases List.mem_cons.mp hw with rfl | hw
  · exact k _ h
  · exact k w hw
def j_Pc (sz kA vA : Nat) (as : List Value) : Array Value → State → Prop := va_Pc as (fun U => j_B sz kA vA U)
def j_Qc (v : Int32) : Array Value → State → Outcome → State → Prop := fun _ st oc t => oc = .returned (some (.int v)) ∧ t.heap = st.heap
theorem j_blind (sz kA vA : Nat) (as : List Value) : FrameBlind (j_Pc sz kA vA as) := fun a U g mk q => ⟨q.1, j_B_same (s := U) (U := U.calling g mk a) q.2 rfl rfl⟩
section JC
variable {p : Program} {l : Launch} {e : Env} {R : Room} {s : State} {m : MethodId} {args : Array Value} {below : List Frame} {meth : Method} {c : Code} {H : Heap} {locs : List Loc} {cells slots : Nat} {Q : State → Prop}
theorem j_pre {sz kA vA : Nat} {as : List Value} (hJ : j_B sz kA vA s) (hS : va_S (g_A sz) s.heap H locs) : PreS s H (j_Pc sz kA vA as) as := ⟨j_blind sz kA vA as, fun U hU hW => ⟨rfl, j_B_mv hJ hS hU hW.alike⟩⟩
theorem j_preV {sz kA vA : Nat} {as : List Value} (hJ : j_B sz kA vA s) (hS : va_S (g_A sz) s.heap H locs) : PreV s H "java/lang/String" kA (j_Pc sz kA vA (.ref kA :: as)) as := by
  refine ⟨j_blind sz kA vA _, ?_, (j_pre hJ hS).2⟩
  obtain ⟨cell, h1, h2, h3, -⟩ := hJ.1.kept hS.2.1
  exact ⟨cell, h1, h2, h3⟩
theorem j_callW {v : Int32} {a : Array Value} {pc sz : Nat} {lsA : Array Slot} {st0 rest : List Value} (hr : va_Run p l e R s m args below meth c H locs cells slots 0 0 (F0 m pc lsA st0) rest (j_Qc v a) (g_A sz)) (hS : va_S (g_A sz) s.heap H locs)
    (kk : ∀ locs1 : List Loc, va_S (g_A sz) s.heap H locs1 → W p l e R s m args below meth c H locs1 cells slots Q (F0 m (pc + 3) lsA (.int v :: rest))) : W p l e R s m args below meth c H locs cells slots Q (F0 m pc lsA st0) := by
  intro T hT X
  obtain ⟨v', st₀, t, T', L, h0, X', hL, e1, e2, ⟨hv, hp⟩, st⟩ := hr T hT X
  cases hv
  have hH : T'.heap = H := by rw [e1, hp, h0]
  obtain ⟨t2, a1, b1⟩ := kk (locs ++ L) ⟨hS.1, hS.2.1, fun q hq => by
      rcases List.mem_append.mp hq with h | h
      · exact hS.2.2 q h
      · exact hL q h⟩ T' hH X'
  exact ⟨t2, st t2 a1, b1⟩
end JC
set_option maxHeartbeats 1000000 in
theorem j_isLatin1 {l : Launch} {sz kA vA : Nat} : Met l yJ0_isLatin1_aae02 (j_ws yJ0_isLatin1_aae02 cJ0_isLatin1_aae02 1 (some .boolean)) (g_rmd 0 0 0) (j_Pc sz kA vA [.ref kA]) (j_Qc 1) 0 0 (g_A sz) := by
  refine Met.ofW (cc := cJ0_isLatin1_aae02) (maxL := 1) (ret := some .boolean) (by decide) rfl ?_
  intro p e s m args below meth c s₁ B hml hv
  obtain ⟨rfl, hJ⟩ := hv
  have hts0 := atoms_spec (ws := j_ws yJ0_isLatin1_aae02 cJ0_isLatin1_aae02 1 (some .boolean)) B.pre
  have hts : ∀ w ∈ g_wk, w.before ([.ref kA] : List Value).toArray s = true := fun w hw => hts0 w (List.mem_cons_of_mem _ hw)
  have hown : s.vm.findClass RJ0 = some m.cls := findClass_of_methodNamed B.named
  have hl := lv_entry ([.ref kA] : List Value) (n := 1) (Nat.le_of_ble_eq_true rfl)
  rw [lg_entry_eq]
  generalize (lg_sl [.ref kA] ++ List.replicate (1 - (lg_sl [.ref kA]).length) Slot.unset).toArray = ls at hl ⊢
  have hl : lv_has ls 1 (lv_args 0 [.ref kA]) := hl
  have hCF : CallFix p m c cJ0_isLatin1_aae02 1 s ([.ref kA] : List Value).toArray g_wk RJ0 := ⟨B.exec, B.bytes, hml, hown, hts⟩
  have hS : va_S (g_A sz) s.heap s.heap [] := va_S.rf
  refine va_gets B.exec B.bytes hJ.2.2.2.2 hS hown (hts _ (j_in3 (j := 133) rfl rfl)) (fun _ h => h) (show decode cJ0_isLatin1_aae02 0 = .ok (.getstatic 38, 3) by decide +kernel) ?_
  refine lv_if_eq B.exec B.bytes (show decode cJ0_isLatin1_aae02 3 = .ok (.ifCond .eq 14, 3) by decide +kernel) (tgt := 17) rfl (fun h => ?_) (fun h => ?_)
  · exact absurd h (by decide)
  · skip
    refine lv_aload_n B.exec B.bytes (show decode cJ0_isLatin1_aae02 6 = .ok (.aload_n 0, 1) by decide +kernel) rfl (lv_at hl 0 rfl) ?_
    refine vk_getf B.exec B.bytes hJ.2.1 hS hown (hts _ (j_in9 (j := 204) rfl rfl)) (fun _ h => h) (show decode cJ0_isLatin1_aae02 7 = .ok (.getfield 15, 3) by decide +kernel) ?_
    refine lv_if_ne B.exec B.bytes (show decode cJ0_isLatin1_aae02 10 = .ok (.ifCond .ne 7, 3) by decide +kernel) (tgt := 17) rfl (fun h => ?_) (fun h => ?_)
    · exact absurd rfl h
    · skip
      refine lv_iconst B.exec B.bytes (show decode cJ0_isLatin1_aae02 13 = .ok (.iconst 1, 1) by decide +kernel) rfl ?_
      refine lv_goto B.exec B.bytes (show decode cJ0_isLatin1_aae02 14 = .ok (.goto 4, 3) by decide +kernel) (tgt := 18) rfl ?_
      exact W.zret B.exec B.bytes B.returns rfl (fun t ht hW => ⟨rfl, ht⟩) hS.2.2 (show decode cJ0_isLatin1_aae02 18 = .ok (.ireturn, 1) by decide +kernel) B.notSynchronized
set_option maxHeartbeats 1000000 in
theorem j_coder {l : Launch} {sz kA vA : Nat} : Met l yJ0_coder_7d493 (j_ws yJ0_coder_7d493 cJ0_coder_7d493 1 (some .byte)) (g_rmd 0 0 0) (j_Pc sz kA vA [.ref kA]) (j_Qc 0) 0 0 (g_A sz) := by
  refine Met.ofW (cc := cJ0_coder_7d493) (maxL := 1) (ret := some .byte) (by decide) rfl ?_
  intro p e s m args below meth c s₁ B hml hv
  obtain ⟨rfl, hJ⟩ := hv
  have hts0 := atoms_spec (ws := j_ws yJ0_coder_7d493 cJ0_coder_7d493 1 (some .byte)) B.pre
  have hts : ∀ w ∈ g_wk, w.before ([.ref kA] : List Value).toArray s = true := fun w hw => hts0 w (List.mem_cons_of_mem _ hw)
  have hown : s.vm.findClass RJ0 = some m.cls := findClass_of_methodNamed B.named
  have hl := lv_entry ([.ref kA] : List Value) (n := 1) (Nat.le_of_ble_eq_true rfl)
  rw [lg_entry_eq]
  generalize (lg_sl [.ref kA] ++ List.replicate (1 - (lg_sl [.ref kA]).length) Slot.unset).toArray = ls at hl ⊢
  have hl : lv_has ls 1 (lv_args 0 [.ref kA]) := hl
  have hCF : CallFix p m c cJ0_coder_7d493 1 s ([.ref kA] : List Value).toArray g_wk RJ0 := ⟨B.exec, B.bytes, hml, hown, hts⟩
  have hS : va_S (g_A sz) s.heap s.heap [] := va_S.rf
  refine va_gets B.exec B.bytes hJ.2.2.2.2 hS hown (hts _ (j_in3 (j := 133) rfl rfl)) (fun _ h => h) (show decode cJ0_coder_7d493 0 = .ok (.getstatic 38, 3) by decide +kernel) ?_
  refine lv_if_eq B.exec B.bytes (show decode cJ0_coder_7d493 3 = .ok (.ifCond .eq 10, 3) by decide +kernel) (tgt := 13) rfl (fun h => ?_) (fun h => ?_)
  · exact absurd h (by decide)
  · skip
    refine lv_aload_n B.exec B.bytes (show decode cJ0_coder_7d493 6 = .ok (.aload_n 0, 1) by decide +kernel) rfl (lv_at hl 0 rfl) ?_
    refine vk_getf B.exec B.bytes hJ.2.1 hS hown (hts _ (j_in9 (j := 204) rfl rfl)) (fun _ h => h) (show decode cJ0_coder_7d493 7 = .ok (.getfield 15, 3) by decide +kernel) ?_
    refine lv_goto B.exec B.bytes (show decode cJ0_coder_7d493 10 = .ok (.goto 4, 3) by decide +kernel) (tgt := 14) rfl ?_
    exact W.zret B.exec B.bytes B.returns rfl (fun t ht hW => ⟨rfl, ht⟩) hS.2.2 (show decode cJ0_coder_7d493 14 = .ok (.ireturn, 1) by decide +kernel) B.notSynchronized
set_option maxHeartbeats 1000000 in
theorem j_length {l : Launch} {sz kA vA : Nat} : Met l yJ0_length_8abf5 (j_ws yJ0_length_8abf5 cJ0_length_8abf5 1 (some .int)) (g_rmd 1 0 0) (j_Pc sz kA vA [.ref kA]) (j_Qc 15) 0 0 (g_A sz) := by
  refine Met.ofW (cc := cJ0_length_8abf5) (maxL := 1) (ret := some .int) (by decide) rfl ?_
  intro p e s m args below meth c s₁ B hml hv
  obtain ⟨rfl, hJ⟩ := hv
  have hts0 := atoms_spec (ws := j_ws yJ0_length_8abf5 cJ0_length_8abf5 1 (some .int)) B.pre
  have hts : ∀ w ∈ g_wk, w.before ([.ref kA] : List Value).toArray s = true := fun w hw => hts0 w (List.mem_cons_of_mem _ hw)
  have hown : s.vm.findClass RJ0 = some m.cls := findClass_of_methodNamed B.named
  have hl := lv_entry ([.ref kA] : List Value) (n := 1) (Nat.le_of_ble_eq_true rfl)
  rw [lg_entry_eq]
  generalize (lg_sl [.ref kA] ++ List.replicate (1 - (lg_sl [.ref kA]).length) Slot.unset).toArray = ls at hl ⊢
  have hl : lv_has ls 1 (lv_args 0 [.ref kA]) := hl
  have hCF : CallFix p m c cJ0_length_8abf5 1 s ([.ref kA] : List Value).toArray g_wk RJ0 := ⟨B.exec, B.bytes, hml, hown, hts⟩
  have hS : va_S (g_A sz) s.heap s.heap [] := va_S.rf
  refine lv_aload_n B.exec B.bytes (show decode cJ0_length_8abf5 0 = .ok (.aload_n 0, 1) by decide +kernel) rfl (lv_at hl 0 rfl) ?_
  refine vk_getf B.exec B.bytes hJ.2.2.1 hS hown (hts _ (j_in9 (j := 205) rfl rfl)) (fun _ h => h) (show decode cJ0_length_8abf5 1 = .ok (.getfield 9, 3) by decide +kernel) ?_
  refine va_tlen B.exec B.bytes hJ.2.2.2.1 hS (v := 15) rfl (show decode cJ0_length_8abf5 4 = .ok (.arraylength, 1) by decide +kernel) ?_
  refine lv_aload_n B.exec B.bytes (show decode cJ0_length_8abf5 5 = .ok (.aload_n 0, 1) by decide +kernel) rfl (lv_at hl 0 rfl) ?_
  refine j_callW (va_runV (C := "java/lang/String") (b := kA) (As := []) (rest := [.int 15]) hCF (j_coder (l := l) (sz := sz) (kA := kA) (vA := vA)) ⟨callB_of 0 hts (j_good (j_in3 (j := 142) rfl rfl)) rfl rfl rfl (hts _ (j_in1 (j := 15) rfl rfl)) (hts _ (j_in3 (j := 139) rfl rfl)) (by decide) ⟨Nat.le_of_ble_eq_true rfl, Nat.le_of_ble_eq_true rfl⟩, hts _ (j_in3 (j := 140) rfl rfl), hts _ (j_in3 (j := 141) rfl rfl)⟩ (j_preV hJ hS) rfl rfl hl.1 rfl (lv_room (Nat.le_of_ble_eq_true rfl)) (show decode cJ0_length_8abf5 6 = .ok (.invokevirtual 335, 3) by decide +kernel) ⟨Nat.le_of_ble_eq_true rfl, Nat.le_of_ble_eq_true rfl⟩) hS (fun locs6 hS6 => ?_)
  refine lv_ishr B.exec B.bytes (show decode cJ0_length_8abf5 9 = .ok (.ishr, 1) by decide +kernel) ?_
  exact W.iret B.exec B.bytes B.returns (fun t ht hW => ⟨rfl, ht⟩) hS6.2.2 (show decode cJ0_length_8abf5 10 = .ok (.ireturn, 1) by decide +kernel) B.notSynchronized
def j_ce (c : Int32) : Int32 := if c < 0 then 0 else if 255 < c then 0 else 1
set_option maxHeartbeats 1000000 in
theorem j_canEncode {l : Launch} {sz kA vA : Nat} (c : Int32) : Met l yJ1_canEncode_9a6ad (j_ws yJ1_canEncode_9a6ad cJ1_canEncode_9a6ad 1 (some .boolean)) (g_rmd 0 0 0) (j_Pc sz kA vA [.int c]) (j_Qc (j_ce c)) 0 0 (g_A sz) := by
  refine Met.ofW (cc := cJ1_canEncode_9a6ad) (maxL := 1) (ret := some .boolean) (by decide) rfl ?_
  intro p e s m args below meth c9 s₁ B hml hv
  obtain ⟨rfl, hJ⟩ := hv
  have hts0 := atoms_spec (ws := j_ws yJ1_canEncode_9a6ad cJ1_canEncode_9a6ad 1 (some .boolean)) B.pre
  have hts : ∀ w ∈ g_wk, w.before ([.int c] : List Value).toArray s = true := fun w hw => hts0 w (List.mem_cons_of_mem _ hw)
  have hown : s.vm.findClass RJ1 = some m.cls := findClass_of_methodNamed B.named
  have hl := lv_entry ([.int c] : List Value) (n := 1) (Nat.le_of_ble_eq_true rfl)
  rw [lg_entry_eq]
  generalize (lg_sl [.int c] ++ List.replicate (1 - (lg_sl [.int c]).length) Slot.unset).toArray = ls at hl ⊢
  have hl : lv_has ls 1 (lv_args 0 [.int c]) := hl
  have hCF : CallFix p m c9 cJ1_canEncode_9a6ad 1 s ([.int c] : List Value).toArray g_wk RJ1 := ⟨B.exec, B.bytes, hml, hown, hts⟩
  have hS : va_S (g_A sz) s.heap s.heap [] := va_S.rf
  refine lv_iload_n B.exec B.bytes (show decode cJ1_canEncode_9a6ad 0 = .ok (.iload_n 0, 1) by decide +kernel) rfl (lv_at hl 0 rfl) ?_
  refine lv_if_lt B.exec B.bytes (show decode cJ1_canEncode_9a6ad 1 = .ok (.ifCond .lt 14, 3) by decide +kernel) (tgt := 15) rfl (fun h1 => ?_) (fun h1 => ?_)
  · have e : j_ce c = 0 := if_pos h1
    rw [e]
    refine lv_iconst B.exec B.bytes (show decode cJ1_canEncode_9a6ad 15 = .ok (.iconst 0, 1) by decide +kernel) rfl ?_
    exact W.zret B.exec B.bytes B.returns rfl (fun t ht hW => ⟨rfl, ht⟩) hS.2.2 (show decode cJ1_canEncode_9a6ad 16 = .ok (.ireturn, 1) by decide +kernel) B.notSynchronized
  · skip
    refine lv_iload_n B.exec B.bytes (show decode cJ1_canEncode_9a6ad 4 = .ok (.iload_n 0, 1) by decide +kernel) rfl (lv_at hl 0 rfl) ?_
    refine lv_sipush B.exec B.bytes (show decode cJ1_canEncode_9a6ad 5 = .ok (.sipush 255, 3) by decide +kernel) (v := 255) rfl ?_
    refine lv_icmp_gt B.exec B.bytes (show decode cJ1_canEncode_9a6ad 8 = .ok (.if_icmp .gt 7, 3) by decide +kernel) (tgt := 15) rfl (fun h2 => ?_) (fun h2 => ?_)
    · have e : j_ce c = 0 := by
        unfold j_ce
        rw [if_neg h1, if_pos h2]
      rw [e]
      refine lv_iconst B.exec B.bytes (show decode cJ1_canEncode_9a6ad 15 = .ok (.iconst 0, 1) by decide +kernel) rfl ?_
      exact W.zret B.exec B.bytes B.returns rfl (fun t ht hW => ⟨rfl, ht⟩) hS.2.2 (show decode cJ1_canEncode_9a6ad 16 = .ok (.ireturn, 1) by decide +kernel) B.notSynchronized
    · have e : j_ce c = 1 := by
        unfold j_ce
        rw [if_neg h1, if_neg h2]
      rw [e]
      refine lv_iconst B.exec B.bytes (show decode cJ1_canEncode_9a6ad 11 = .ok (.iconst 1, 1) by decide +kernel) rfl ?_
      refine lv_goto B.exec B.bytes (show decode cJ1_canEncode_9a6ad 12 = .ok (.goto 4, 3) by decide +kernel) (tgt := 16) rfl ?_
      exact W.zret B.exec B.bytes B.returns rfl (fun t ht hW => ⟨rfl, ht⟩) hS.2.2 (show decode cJ1_canEncode_9a6ad 16 = .ok (.ireturn, 1) by decide +kernel) B.notSynchronized
def j_ix (cb : Int32) : List Int32 → Nat → Int32
  | [], _ => -1
  | b :: l, k => if b = cb then Int32.ofNat k else j_ix cb l (k + 1)
set_option maxHeartbeats 1000000 in
theorem j_loop {p : Program} {l : Launch} {e : Env} {R : Room} {s : State} {m : MethodId} {args : Array Value} {below : List Frame} {meth : Method} {c : Code} {H : Heap} {locs : List Loc} {cells slots : Nat} {Qc : Array Value → State → Outcome → State → Prop} {free : Addr → Prop} {sz vA : Nat} (hx : p.tables.exec = Jvm.exec) (hb : c.code = cJ1_indexOfChar_4cfef) (hr : meth.sig.returnType = some .int) (hlocks : meth.locks = false) (hT : va_T .byte vA 15 (fun j => .int (j_by.getD j 0)) (g_A sz) s s.heap) (hS : va_S (g_A sz) s.heap H locs) (hf : ∀ q ∈ locs, free q.base) {x cb z3 : Int32} :
    ∀ (r : List Int32) (k : Nat) (ls : Array Slot), k + r.length = 15 → j_by.drop k = r → lv_has ls 6 [(5, .int (Int32.ofNat k)), (4, .int cb), (0, .ref vA), (1, .int x), (2, .int z3), (3, .int 15)] → (∀ t : State, t.heap = H → s.WarmedH t.vm → Qc args s (.returned (some (.int (j_ix cb r k)))) t) → W p l e R s m args below meth c H locs cells slots (MQ below Qc args s cells slots free) (F0 m 7 ls []) := by
  intro r
  induction r with
  | nil =>
    intro k ls hk hd hl hq
    have hk : k = 15 := by simpa using hk
    subst hk
    refine lv_iload hx hb (show decode cJ1_indexOfChar_4cfef 7 = .ok (.iload 5, 2) by decide +kernel) (lv_at hl 0 rfl) ?_
    refine lv_iload_n hx hb (show decode cJ1_indexOfChar_4cfef 9 = .ok (.iload_n 3, 1) by decide +kernel) rfl (lv_at hl 5 rfl) ?_
    refine lv_icmp_ge hx hb (show decode cJ1_indexOfChar_4cfef 10 = .ok (.if_icmp .ge 21, 3) by decide +kernel) (tgt := 31) rfl (fun h => ?_) (fun h => absurd (by decide) h)
    refine lv_iconst hx hb (show decode cJ1_indexOfChar_4cfef 31 = .ok (.iconst (-1), 1) by decide +kernel) rfl ?_
    exact W.iret hx hb hr hq hf (show decode cJ1_indexOfChar_4cfef 32 = .ok (.ireturn, 1) by decide +kernel) hlocks
  | cons b r ih =>
    intro k ls hk hd hl hq
    have hk15 : k < 15 := by simp at hk; omega
    have hbk : j_by.getD k 0 = b := by
      have h1 : j_by[k]? = some b := by
        have := congrArg List.head? hd
        simpa [List.head?_drop] using this
      simp [List.getD, h1]
    have hd2 : j_by.drop (k + 1) = r := by
      have := congrArg List.tail hd
      simpa [List.tail_drop] using this
    have ek : (Int32.ofNat k).toNatClampNeg = k := by
      show (Int32.ofNat k).toInt.toNat = k
      have : (Int32.ofNat k).toInt = (k : Int) := Int32.toInt_ofNat_of_lt (by omega)
      rw [this]
      omega
    have ekI : (Int32.ofNat k).toInt = (k : Int) := Int32.toInt_ofNat_of_lt (by omega)
    refine lv_iload hx hb (show decode cJ1_indexOfChar_4cfef 7 = .ok (.iload 5, 2) by decide +kernel) (lv_at hl 0 rfl) ?_
    refine lv_iload_n hx hb (show decode cJ1_indexOfChar_4cfef 9 = .ok (.iload_n 3, 1) by decide +kernel) rfl (lv_at hl 5 rfl) ?_
    refine lv_icmp_ge hx hb (show decode cJ1_indexOfChar_4cfef 10 = .ok (.if_icmp .ge 21, 3) by decide +kernel) (tgt := 31) rfl (fun h => ?_) (fun h => ?_)
    · exfalso
      have h := Int32.le_iff_toInt_le.mp h
      rw [ekI] at h
      have e15 : (15 : Int32).toInt = 15 := rfl
      omega
    · refine lv_aload_n hx hb (show decode cJ1_indexOfChar_4cfef 13 = .ok (.aload_n 0, 1) by decide +kernel) rfl (lv_at hl 2 rfl) ?_
      refine lv_iload hx hb (show decode cJ1_indexOfChar_4cfef 14 = .ok (.iload 5, 2) by decide +kernel) (lv_at hl 0 rfl) ?_
      refine va_tb hx hb hT hS (i := Int32.ofNat k) (v := .int b) ?_ ?_ (show decode cJ1_indexOfChar_4cfef 16 = .ok (.baload, 1) by decide +kernel) ?_
      · rintro (h | h)
        · have h := Int32.lt_iff_toInt_lt.mp h
          rw [ekI] at h
          have e0 : (0 : Int32).toInt = 0 := rfl
          omega
        · rw [ek] at h
          omega
      · show Value.int (j_by.getD (Int32.ofNat k).toNatClampNeg 0) = Value.int b
        rw [ek, hbk]
      · refine lv_iload hx hb (show decode cJ1_indexOfChar_4cfef 17 = .ok (.iload 4, 2) by decide +kernel) (lv_at hl 1 rfl) ?_
        refine lv_icmp_ne hx hb (show decode cJ1_indexOfChar_4cfef 19 = .ok (.if_icmp .ne 6, 3) by decide +kernel) (tgt := 25) rfl (fun h => ?_) (fun h => ?_)
        · have h9 : ¬ b = cb := fun e => h e
          refine lv_iinc hx hb (show decode cJ1_indexOfChar_4cfef 25 = .ok (.iinc 5 1, 3) by decide +kernel) hl (k := 0) rfl (v := Int32.ofNat (k + 1)) ?_ (by decide) rfl (fun ls' hl' => ?_)
          · show Int32.ofNat k + Int32.ofInt 1 = Int32.ofNat (k + 1)
            rw [Int32.ofNat_add]
            rfl
          · refine lv_goto hx hb (show decode cJ1_indexOfChar_4cfef 28 = .ok (.goto (-21), 3) by decide +kernel) (tgt := 7) rfl ?_
            refine ih (k + 1) ls' (by simp at hk; omega) hd2 hl' ?_
            have e : j_ix cb (b :: r) k = j_ix cb r (k + 1) := by
              show (if b = cb then Int32.ofNat k else j_ix cb r (k + 1)) = _
              rw [if_neg h9]
            rw [e] at hq
            exact hq
        · have h9 : b = cb := h
          refine lv_iload hx hb (show decode cJ1_indexOfChar_4cfef 22 = .ok (.iload 5, 2) by decide +kernel) (lv_at hl 0 rfl) ?_
          have e : j_ix cb (b :: r) k = Int32.ofNat k := by
            show (if b = cb then Int32.ofNat k else j_ix cb r (k + 1)) = _
            rw [if_pos h9]
          rw [e] at hq
          exact W.iret hx hb hr hq hf (show decode cJ1_indexOfChar_4cfef 24 = .ok (.ireturn, 1) by decide +kernel) hlocks
set_option maxHeartbeats 1000000 in
theorem j_indexOfChar {l : Launch} {sz kA vA : Nat} (x : Int32) : Met l yJ1_indexOfChar_4cfef (j_ws yJ1_indexOfChar_4cfef cJ1_indexOfChar_4cfef 6 (some .int)) (g_rmd 0 0 0) (j_Pc sz kA vA [.ref vA, .int x, .int 0, .int 15]) (j_Qc (j_ix x.toInt8.toInt32 j_by 0)) 0 0 (g_A sz) := by
  refine Met.ofW (cc := cJ1_indexOfChar_4cfef) (maxL := 6) (ret := some .int) (by decide) rfl ?_
  intro p e s m args below meth c s₁ B hml hv
  obtain ⟨rfl, hJ⟩ := hv
  have hts0 := atoms_spec (ws := j_ws yJ1_indexOfChar_4cfef cJ1_indexOfChar_4cfef 6 (some .int)) B.pre
  have hts : ∀ w ∈ g_wk, w.before ([.ref vA, .int x, .int 0, .int 15] : List Value).toArray s = true := fun w hw => hts0 w (List.mem_cons_of_mem _ hw)
  have hown : s.vm.findClass RJ1 = some m.cls := findClass_of_methodNamed B.named
  have hl := lv_entry ([.ref vA, .int x, .int 0, .int 15] : List Value) (n := 6) (Nat.le_of_ble_eq_true rfl)
  rw [lg_entry_eq]
  generalize (lg_sl [.ref vA, .int x, .int 0, .int 15] ++ List.replicate (6 - (lg_sl [.ref vA, .int x, .int 0, .int 15]).length) Slot.unset).toArray = ls at hl ⊢
  have hl : lv_has ls 6 (lv_args 0 [.ref vA, .int x, .int 0, .int 15]) := hl
  have hCF : CallFix p m c cJ1_indexOfChar_4cfef 6 s ([.ref vA, .int x, .int 0, .int 15] : List Value).toArray g_wk RJ1 := ⟨B.exec, B.bytes, hml, hown, hts⟩
  have hS : va_S (g_A sz) s.heap s.heap [] := va_S.rf
  refine lv_iload_n B.exec B.bytes (show decode cJ1_indexOfChar_4cfef 0 = .ok (.iload_n 1, 1) by decide +kernel) rfl (lv_at hl 1 rfl) ?_
  refine lv_i2b B.exec B.bytes (show decode cJ1_indexOfChar_4cfef 1 = .ok (.i2b, 1) by decide +kernel) rfl ?_
  refine lv_istore B.exec B.bytes (show decode cJ1_indexOfChar_4cfef 2 = .ok (.istore 4, 2) by decide +kernel) hl (by decide) rfl (fun ls1 hl1 => ?_)
  refine lv_iload_n B.exec B.bytes (show decode cJ1_indexOfChar_4cfef 4 = .ok (.iload_n 2, 1) by decide +kernel) rfl (lv_at hl1 3 rfl) ?_
  refine lv_istore B.exec B.bytes (show decode cJ1_indexOfChar_4cfef 5 = .ok (.istore 5, 2) by decide +kernel) hl1 (by decide) rfl (fun ls2 hl2 => ?_)
  exact j_loop B.exec B.bytes B.returns B.notSynchronized hJ.2.2.2.1 hS hS.2.2 j_by 0 ls2 rfl rfl hl2 (fun t ht hW => ⟨rfl, ht⟩)
def j_lx (x : Int32) : Int32 := if j_ce x = 0 then -1 else j_ix x.toInt8.toInt32 j_by 0
set_option maxHeartbeats 1000000 in
theorem j_lIndexOf {l : Launch} {sz kA vA : Nat} (x : Int32) : Met l yJ1_indexOf_4cfef (j_ws yJ1_indexOf_4cfef cJ1_indexOf_4cfef 4 (some .int)) (g_rmd 1 0 0) (j_Pc sz kA vA [.ref vA, .int x, .int 0, .int 15]) (j_Qc (j_lx x)) 0 0 (g_A sz) := by
  refine Met.ofW (cc := cJ1_indexOf_4cfef) (maxL := 4) (ret := some .int) (by decide) rfl ?_
  intro p e s m args below meth c s₁ B hml hv
  obtain ⟨rfl, hJ⟩ := hv
  have hts0 := atoms_spec (ws := j_ws yJ1_indexOf_4cfef cJ1_indexOf_4cfef 4 (some .int)) B.pre
  have hts : ∀ w ∈ g_wk, w.before ([.ref vA, .int x, .int 0, .int 15] : List Value).toArray s = true := fun w hw => hts0 w (List.mem_cons_of_mem _ hw)
  have hown : s.vm.findClass RJ1 = some m.cls := findClass_of_methodNamed B.named
  have hl := lv_entry ([.ref vA, .int x, .int 0, .int 15] : List Value) (n := 4) (Nat.le_of_ble_eq_true rfl)
  rw [lg_entry_eq]
  generalize (lg_sl [.ref vA, .int x, .int 0, .int 15] ++ List.replicate (4 - (lg_sl [.ref vA, .int x, .int 0, .int 15]).length) Slot.unset).toArray = ls at hl ⊢
  have hl : lv_has ls 4 (lv_args 0 [.ref vA, .int x, .int 0, .int 15]) := hl
  have hCF : CallFix p m c cJ1_indexOf_4cfef 4 s ([.ref vA, .int x, .int 0, .int 15] : List Value).toArray g_wk RJ1 := ⟨B.exec, B.bytes, hml, hown, hts⟩
  have hS : va_S (g_A sz) s.heap s.heap [] := va_S.rf
  refine lv_iload_n B.exec B.bytes (show decode cJ1_indexOf_4cfef 0 = .ok (.iload_n 1, 1) by decide +kernel) rfl (lv_at hl 1 rfl) ?_
  refine j_callW (va_runS (As := [.int x]) (rest := []) hCF (j_canEncode (l := l) (sz := sz) (kA := kA) (vA := vA) x) ⟨callB_of 1 hts (j_good (j_in3 (j := 148) rfl rfl)) rfl rfl rfl (hts _ (j_in1 (j := 16) rfl rfl)) (hts _ (j_in3 (j := 146) rfl rfl)) (by decide) ⟨Nat.le_of_ble_eq_true rfl, Nat.le_of_ble_eq_true rfl⟩, hts _ (j_in3 (j := 147) rfl rfl)⟩ (j_pre hJ hS) rfl rfl hl.1 rfl (lv_room (Nat.le_of_ble_eq_true rfl)) (show decode cJ1_indexOf_4cfef 1 = .ok (.invokestatic 88, 3) by decide +kernel) ⟨Nat.le_of_ble_eq_true rfl, Nat.le_of_ble_eq_true rfl⟩) hS (fun locs1 hS1 => ?_)
  refine lv_if_ne B.exec B.bytes (show decode cJ1_indexOf_4cfef 4 = .ok (.ifCond .ne 5, 3) by decide +kernel) (tgt := 9) rfl (fun h4 => ?_) (fun h4 => ?_)
  · have e9 : j_lx x = j_ix x.toInt8.toInt32 j_by 0 := if_neg h4
    rw [e9]
    refine lv_iload_n B.exec B.bytes (show decode cJ1_indexOf_4cfef 9 = .ok (.iload_n 2, 1) by decide +kernel) rfl (lv_at hl 2 rfl) ?_
    refine lv_iconst B.exec B.bytes (show decode cJ1_indexOf_4cfef 10 = .ok (.iconst 0, 1) by decide +kernel) rfl ?_
    refine va_mmax B.exec B.bytes (hml.trans hl.1.symm) hown (hts _ (j_in3 (j := 149) rfl rfl)) (hts _ (j_in3 (j := 150) rfl rfl)) (hts _ (j_in1 (j := 17) rfl rfl)) (hts _ (j_in3 (j := 151) rfl rfl)) (Nat.le_of_ble_eq_true rfl) (Nat.le_of_ble_eq_true rfl) (Nat.le_of_ble_eq_true rfl) (Nat.le_of_ble_eq_true rfl) (show decode cJ1_indexOf_4cfef 11 = .ok (.invokestatic 92, 3) by decide +kernel) ?_
    refine lv_istore_n B.exec B.bytes (show decode cJ1_indexOf_4cfef 14 = .ok (.istore_n 2, 1) by decide +kernel) rfl hl (by decide) rfl (fun ls1 hl1 => ?_)
    refine lv_iload_n B.exec B.bytes (show decode cJ1_indexOf_4cfef 15 = .ok (.iload_n 3, 1) by decide +kernel) rfl (lv_at hl1 3 rfl) ?_
    refine lv_aload_n B.exec B.bytes (show decode cJ1_indexOf_4cfef 16 = .ok (.aload_n 0, 1) by decide +kernel) rfl (lv_at hl1 1 rfl) ?_
    refine va_tlen B.exec B.bytes hJ.2.2.2.1 hS1 (v := 15) rfl (show decode cJ1_indexOf_4cfef 17 = .ok (.arraylength, 1) by decide +kernel) ?_
    refine va_mmin B.exec B.bytes (hml.trans hl1.1.symm) hown (hts _ (j_in3 (j := 152) rfl rfl)) (hts _ (j_in3 (j := 153) rfl rfl)) (hts _ (j_in1 (j := 17) rfl rfl)) (hts _ (j_in3 (j := 154) rfl rfl)) (Nat.le_of_ble_eq_true rfl) (Nat.le_of_ble_eq_true rfl) (Nat.le_of_ble_eq_true rfl) (Nat.le_of_ble_eq_true rfl) (show decode cJ1_indexOf_4cfef 18 = .ok (.invokestatic 38, 3) by decide +kernel) ?_
    refine lv_istore_n B.exec B.bytes (show decode cJ1_indexOf_4cfef 21 = .ok (.istore_n 3, 1) by decide +kernel) rfl hl1 (by decide) rfl (fun ls2 hl2 => ?_)
    have hl2 : lv_has ls2 4 [(3, .int 15), (2, .int 0), (0, .ref vA), (1, .int x)] := hl2
    refine lv_iload_n B.exec B.bytes (show decode cJ1_indexOf_4cfef 22 = .ok (.iload_n 2, 1) by decide +kernel) rfl (lv_at hl2 1 rfl) ?_
    refine lv_iload_n B.exec B.bytes (show decode cJ1_indexOf_4cfef 23 = .ok (.iload_n 3, 1) by decide +kernel) rfl (lv_at hl2 0 rfl) ?_
    refine lv_icmp_lt B.exec B.bytes (show decode cJ1_indexOf_4cfef 24 = .ok (.if_icmp .lt 5, 3) by decide +kernel) (tgt := 29) rfl (fun h24 => ?_) (fun h24 => ?_)
    · skip
      refine lv_aload_n B.exec B.bytes (show decode cJ1_indexOf_4cfef 29 = .ok (.aload_n 0, 1) by decide +kernel) rfl (lv_at hl2 2 rfl) ?_
      refine lv_iload_n B.exec B.bytes (show decode cJ1_indexOf_4cfef 30 = .ok (.iload_n 1, 1) by decide +kernel) rfl (lv_at hl2 3 rfl) ?_
      refine lv_iload_n B.exec B.bytes (show decode cJ1_indexOf_4cfef 31 = .ok (.iload_n 2, 1) by decide +kernel) rfl (lv_at hl2 1 rfl) ?_
      refine lv_iload_n B.exec B.bytes (show decode cJ1_indexOf_4cfef 32 = .ok (.iload_n 3, 1) by decide +kernel) rfl (lv_at hl2 0 rfl) ?_
      refine j_callW (va_runS (As := [.ref vA, .int x, .int 0, .int 15]) (rest := []) hCF (j_indexOfChar (l := l) (sz := sz) (kA := kA) (vA := vA) x) ⟨callB_of 4 hts (j_good (j_in3 (j := 157) rfl rfl)) rfl rfl rfl (hts _ (j_in1 (j := 16) rfl rfl)) (hts _ (j_in3 (j := 155) rfl rfl)) (by decide) ⟨Nat.le_of_ble_eq_true rfl, Nat.le_of_ble_eq_true rfl⟩, hts _ (j_in3 (j := 156) rfl rfl)⟩ (j_pre hJ hS1) rfl rfl hl2.1 rfl (lv_room (Nat.le_of_ble_eq_true rfl)) (show decode cJ1_indexOf_4cfef 33 = .ok (.invokestatic 95, 3) by decide +kernel) ⟨Nat.le_of_ble_eq_true rfl, Nat.le_of_ble_eq_true rfl⟩) hS1 (fun locs33 hS33 => ?_)
      exact W.iret B.exec B.bytes B.returns (fun t ht hW => ⟨rfl, ht⟩) hS33.2.2 (show decode cJ1_indexOf_4cfef 36 = .ok (.ireturn, 1) by decide +kernel) B.notSynchronized
    · exact absurd (by decide) h24
  · have e9 : j_lx x = -1 := if_pos h4
    rw [e9]
    refine lv_iconst B.exec B.bytes (show decode cJ1_indexOf_4cfef 7 = .ok (.iconst (-1), 1) by decide +kernel) rfl ?_
    exact W.iret B.exec B.bytes B.returns (fun t ht hW => ⟨rfl, ht⟩) hS1.2.2 (show decode cJ1_indexOf_4cfef 8 = .ok (.ireturn, 1) by decide +kernel) B.notSynchronized
set_option maxHeartbeats 1000000 in
theorem j_indexOf2 {l : Launch} {sz kA vA : Nat} (x : Int32) : Met l yJ0_indexOf_7cf53 (j_ws yJ0_indexOf_7cf53 cJ0_indexOf_7cf53 3 (some .int)) (g_rmd 2 0 0) (j_Pc sz kA vA [.ref kA, .int x, .int 0]) (j_Qc (j_lx x)) 0 0 (g_A sz) := by
  refine Met.ofW (cc := cJ0_indexOf_7cf53) (maxL := 3) (ret := some .int) (by decide) rfl ?_
  intro p e s m args below meth c s₁ B hml hv
  obtain ⟨rfl, hJ⟩ := hv
  have hts0 := atoms_spec (ws := j_ws yJ0_indexOf_7cf53 cJ0_indexOf_7cf53 3 (some .int)) B.pre
  have hts : ∀ w ∈ g_wk, w.before ([.ref kA, .int x, .int 0] : List Value).toArray s = true := fun w hw => hts0 w (List.mem_cons_of_mem _ hw)
  have hown : s.vm.findClass RJ0 = some m.cls := findClass_of_methodNamed B.named
  have hl := lv_entry ([.ref kA, .int x, .int 0] : List Value) (n := 3) (Nat.le_of_ble_eq_true rfl)
  rw [lg_entry_eq]
  generalize (lg_sl [.ref kA, .int x, .int 0] ++ List.replicate (3 - (lg_sl [.ref kA, .int x, .int 0]).length) Slot.unset).toArray = ls at hl ⊢
  have hl : lv_has ls 3 (lv_args 0 [.ref kA, .int x, .int 0]) := hl
  have hCF : CallFix p m c cJ0_indexOf_7cf53 3 s ([.ref kA, .int x, .int 0] : List Value).toArray g_wk RJ0 := ⟨B.exec, B.bytes, hml, hown, hts⟩
  have hS : va_S (g_A sz) s.heap s.heap [] := va_S.rf
  refine lv_aload_n B.exec B.bytes (show decode cJ0_indexOf_7cf53 0 = .ok (.aload_n 0, 1) by decide +kernel) rfl (lv_at hl 0 rfl) ?_
  refine j_callW (va_runV (C := "java/lang/String") (b := kA) (As := []) (rest := []) hCF (j_isLatin1 (l := l) (sz := sz) (kA := kA) (vA := vA)) ⟨callB_of 0 hts (j_good (j_in3 (j := 132) rfl rfl)) rfl rfl rfl (hts _ (j_in1 (j := 15) rfl rfl)) (hts _ (j_in3 (j := 129) rfl rfl)) (by decide) ⟨Nat.le_of_ble_eq_true rfl, Nat.le_of_ble_eq_true rfl⟩, hts _ (j_in3 (j := 130) rfl rfl), hts _ (j_in3 (j := 131) rfl rfl)⟩ (j_preV hJ hS) rfl rfl hl.1 rfl (lv_room (Nat.le_of_ble_eq_true rfl)) (show decode cJ0_indexOf_7cf53 1 = .ok (.invokevirtual 492, 3) by decide +kernel) ⟨Nat.le_of_ble_eq_true rfl, Nat.le_of_ble_eq_true rfl⟩) hS (fun locs1 hS1 => ?_)
  refine lv_if_eq B.exec B.bytes (show decode cJ0_indexOf_7cf53 4 = .ok (.ifCond .eq 19, 3) by decide +kernel) (tgt := 23) rfl (fun h4 => ?_) (fun h4 => ?_)
  · exact absurd h4 (by decide)
  · skip
    refine lv_aload_n B.exec B.bytes (show decode cJ0_indexOf_7cf53 7 = .ok (.aload_n 0, 1) by decide +kernel) rfl (lv_at hl 0 rfl) ?_
    refine vk_getf B.exec B.bytes hJ.2.2.1 hS1 hown (hts _ (j_in9 (j := 205) rfl rfl)) (fun _ h => h) (show decode cJ0_indexOf_7cf53 8 = .ok (.getfield 9, 3) by decide +kernel) ?_
    refine lv_iload_n B.exec B.bytes (show decode cJ0_indexOf_7cf53 11 = .ok (.iload_n 1, 1) by decide +kernel) rfl (lv_at hl 1 rfl) ?_
    refine lv_iload_n B.exec B.bytes (show decode cJ0_indexOf_7cf53 12 = .ok (.iload_n 2, 1) by decide +kernel) rfl (lv_at hl 2 rfl) ?_
    refine lv_aload_n B.exec B.bytes (show decode cJ0_indexOf_7cf53 13 = .ok (.aload_n 0, 1) by decide +kernel) rfl (lv_at hl 0 rfl) ?_
    refine j_callW (va_runV (C := "java/lang/String") (b := kA) (As := []) (rest := [.int 0, .int x, .ref vA]) hCF (j_length (l := l) (sz := sz) (kA := kA) (vA := vA)) ⟨callB_of 0 hts (j_good (j_in3 (j := 138) rfl rfl)) rfl rfl rfl (hts _ (j_in1 (j := 15) rfl rfl)) (hts _ (j_in3 (j := 135) rfl rfl)) (by decide) ⟨Nat.le_of_ble_eq_true rfl, Nat.le_of_ble_eq_true rfl⟩, hts _ (j_in3 (j := 136) rfl rfl), hts _ (j_in3 (j := 137) rfl rfl)⟩ (j_preV hJ hS1) rfl rfl hl.1 rfl (lv_room (Nat.le_of_ble_eq_true rfl)) (show decode cJ0_indexOf_7cf53 14 = .ok (.invokevirtual 505, 3) by decide +kernel) ⟨Nat.le_of_ble_eq_true rfl, Nat.le_of_ble_eq_true rfl⟩) hS1 (fun locs14 hS14 => ?_)
    refine j_callW (va_runS (As := [.ref vA, .int x, .int 0, .int 15]) (rest := []) hCF (j_lIndexOf (l := l) (sz := sz) (kA := kA) (vA := vA) x) ⟨callB_of 4 hts (j_good (j_in3 (j := 145) rfl rfl)) rfl rfl rfl (hts _ (j_in1 (j := 16) rfl rfl)) (hts _ (j_in3 (j := 143) rfl rfl)) (by decide) ⟨Nat.le_of_ble_eq_true rfl, Nat.le_of_ble_eq_true rfl⟩, hts _ (j_in3 (j := 144) rfl rfl)⟩ (j_pre hJ hS14) rfl rfl hl.1 rfl (lv_room (Nat.le_of_ble_eq_true rfl)) (show decode cJ0_indexOf_7cf53 17 = .ok (.invokestatic 637, 3) by decide +kernel) ⟨Nat.le_of_ble_eq_true rfl, Nat.le_of_ble_eq_true rfl⟩) hS14 (fun locs17 hS17 => ?_)
    refine lv_goto B.exec B.bytes (show decode cJ0_indexOf_7cf53 20 = .ok (.goto 16, 3) by decide +kernel) (tgt := 36) rfl ?_
    exact W.iret B.exec B.bytes B.returns (fun t ht hW => ⟨rfl, ht⟩) hS17.2.2 (show decode cJ0_indexOf_7cf53 36 = .ok (.ireturn, 1) by decide +kernel) B.notSynchronized
set_option maxHeartbeats 1000000 in
theorem j_indexOf1 {l : Launch} {sz kA vA : Nat} (x : Int32) : Met l yJ0_indexOf_0f7a4 (j_ws yJ0_indexOf_0f7a4 cJ0_indexOf_0f7a4 2 (some .int)) (g_rmd 3 0 0) (j_Pc sz kA vA [.ref kA, .int x]) (j_Qc (j_lx x)) 0 0 (g_A sz) := by
  refine Met.ofW (cc := cJ0_indexOf_0f7a4) (maxL := 2) (ret := some .int) (by decide) rfl ?_
  intro p e s m args below meth c s₁ B hml hv
  obtain ⟨rfl, hJ⟩ := hv
  have hts0 := atoms_spec (ws := j_ws yJ0_indexOf_0f7a4 cJ0_indexOf_0f7a4 2 (some .int)) B.pre
  have hts : ∀ w ∈ g_wk, w.before ([.ref kA, .int x] : List Value).toArray s = true := fun w hw => hts0 w (List.mem_cons_of_mem _ hw)
  have hown : s.vm.findClass RJ0 = some m.cls := findClass_of_methodNamed B.named
  have hl := lv_entry ([.ref kA, .int x] : List Value) (n := 2) (Nat.le_of_ble_eq_true rfl)
  rw [lg_entry_eq]
  generalize (lg_sl [.ref kA, .int x] ++ List.replicate (2 - (lg_sl [.ref kA, .int x]).length) Slot.unset).toArray = ls at hl ⊢
  have hl : lv_has ls 2 (lv_args 0 [.ref kA, .int x]) := hl
  have hCF : CallFix p m c cJ0_indexOf_0f7a4 2 s ([.ref kA, .int x] : List Value).toArray g_wk RJ0 := ⟨B.exec, B.bytes, hml, hown, hts⟩
  have hS : va_S (g_A sz) s.heap s.heap [] := va_S.rf
  refine lv_aload_n B.exec B.bytes (show decode cJ0_indexOf_0f7a4 0 = .ok (.aload_n 0, 1) by decide +kernel) rfl (lv_at hl 0 rfl) ?_
  refine lv_iload_n B.exec B.bytes (show decode cJ0_indexOf_0f7a4 1 = .ok (.iload_n 1, 1) by decide +kernel) rfl (lv_at hl 1 rfl) ?_
  refine lv_iconst B.exec B.bytes (show decode cJ0_indexOf_0f7a4 2 = .ok (.iconst 0, 1) by decide +kernel) rfl ?_
  refine j_callW (va_runV (C := "java/lang/String") (b := kA) (As := [.int x, .int 0]) (rest := []) hCF (j_indexOf2 (l := l) (sz := sz) (kA := kA) (vA := vA) x) ⟨callB_of 2 hts (j_good (j_in3 (j := 128) rfl rfl)) rfl rfl rfl (hts _ (j_in1 (j := 15) rfl rfl)) (hts _ (j_in3 (j := 125) rfl rfl)) (by decide) ⟨Nat.le_of_ble_eq_true rfl, Nat.le_of_ble_eq_true rfl⟩, hts _ (j_in3 (j := 126) rfl rfl), hts _ (j_in3 (j := 127) rfl rfl)⟩ (j_preV hJ hS) rfl rfl hl.1 rfl (lv_room (Nat.le_of_ble_eq_true rfl)) (show decode cJ0_indexOf_0f7a4 3 = .ok (.invokevirtual 633, 3) by decide +kernel) ⟨Nat.le_of_ble_eq_true rfl, Nat.le_of_ble_eq_true rfl⟩) hS (fun locs3 hS3 => ?_)
  exact W.iret B.exec B.bytes B.returns (fun t ht hW => ⟨rfl, ht⟩) hS3.2.2 (show decode cJ0_indexOf_0f7a4 6 = .ok (.ireturn, 1) by decide +kernel) B.notSynchronized
theorem j_lx_eq0 : ∀ i : Fin 256, j_ix (Int32.ofInt ((i : Nat) : Int)).toInt8.toInt32 j_by 0 = g_ixF (Int32.ofInt ((i : Nat) : Int)) j_by 0 := by decide +kernel
theorem j_ixF_out {c : Int32} : ∀ {l : List Int32} {k : Int32}, (∀ b ∈ l, ¬ b = c) → g_ixF c l k = -1
  | [], _, _ => rfl
  | b :: l, k, h => by
    show (if b = c then k else g_ixF c l (k + 1)) = -1
    rw [if_neg (h b List.mem_cons_self)]
    exact j_ixF_out (fun b hb => h b (List.mem_cons_of_mem _ hb))
theorem j_by_b : ∀ b ∈ j_by, 0 ≤ b.toInt ∧ b.toInt ≤ 255 := by decide
theorem j_lx_eq (x : Int32) : j_lx x = g_ixF x j_by 0 := by
  have e0 : (0 : Int32).toInt = 0 := rfl
  have e255 : (255 : Int32).toInt = 255 := rfl
  unfold j_lx j_ce
  by_cases h1 : x < 0
  · rw [if_pos h1, if_pos rfl]
    have h1 := Int32.lt_iff_toInt_lt.mp h1
    exact (j_ixF_out (fun b hb e => by have := j_by_b b hb; rw [e] at this; omega)).symm
  · rw [if_neg h1]
    by_cases h2 : 255 < x
    · rw [if_pos h2, if_pos rfl]
      have h2 := Int32.lt_iff_toInt_lt.mp h2
      exact (j_ixF_out (fun b hb e => by have := j_by_b b hb; rw [e] at this; omega)).symm
    · rw [if_neg h2, if_neg (by decide)]
      have h1 : ¬ x.toInt < 0 := fun h => h1 (Int32.lt_iff_toInt_lt.mpr h)
      have h2 : ¬ (255 : Int) < x.toInt := fun h => h2 (Int32.lt_iff_toInt_lt.mpr h)
      have k := j_lx_eq0 ⟨x.toInt.toNat, by omega⟩
      dsimp only at k
      rw [show ((x.toInt.toNat : Nat) : Int) = x.toInt by omega, Int32.ofInt_toInt] at k
      exact k
end
section
/-! the String constant at the law's start -/
theorem j_tb3 {w : Cond} {j : Nat} (h1 : tables_1_3[j]? = some w) : w ∈ lw_tbl := by
  unfold lw_tbl tables_1
  exact List.mem_append_right _ (List.mem_append_right _ (List.mem_append_right _ (List.mem_append_left _ (List.mem_of_getElem? h1))))
theorem j_tb1 {w : Cond} {j : Nat} (h1 : tables_1_1[j]? = some w) : w ∈ lw_tbl := by
  unfold lw_tbl tables_1
  exact List.mem_append_right _ (List.mem_append_left _ (List.mem_of_getElem? h1))
set_option maxRecDepth 100000 in
set_option maxHeartbeats 4000000 in
theorem g_Str_start {b : Addr} {s : State} (hts0 : ∀ w ∈ lw_tbl, w.before #[Value.ref b] s = true) (hgv : (Jvm.Cond.and given_1 narrow_1).before #[Value.ref b] s = true) : g_Str s.heap.size s := by
  have hs := flat_of_before _ hgv
  have hA : ∀ a : Nat, a < s.heap.size → ¬ g_A s.heap.size a := fun a h h2 => by
    have h2 : s.heap.size ≤ a := h2
    omega
  obtain ⟨adK, adV, hS, hev⟩ := vk_Sof (args := #[Value.ref b]) (s := s) (N := 1) (tm := fun _ => Term.string "GustHome$Reader" 120) (len := [15]) (byt := [j_by]) (A := g_A s.heap.size)
    (fun i hi => by
      obtain rfl : i = 0 := by omega
      decide)
    (fun i hi => hs _ (by decide +kernel)) (fun i hi => hs _ (by decide +kernel)) (fun i hi => hs _ (by decide +kernel))
    (fun i hi => by
      obtain rfl : i = 0 := by omega
      exact hs _ (by decide +kernel))
    (fun i hi j hj => by
      obtain rfl : i = 0 := by omega
      have hj : j < 15 := hj
      match j, hj with
      | 0, _ => exact hs _ (by decide +kernel)
      | 1, _ => exact hs _ (by decide +kernel)
      | 2, _ => exact hs _ (by decide +kernel)
      | 3, _ => exact hs _ (by decide +kernel)
      | 4, _ => exact hs _ (by decide +kernel)
      | 5, _ => exact hs _ (by decide +kernel)
      | 6, _ => exact hs _ (by decide +kernel)
      | 7, _ => exact hs _ (by decide +kernel)
      | 8, _ => exact hs _ (by decide +kernel)
      | 9, _ => exact hs _ (by decide +kernel)
      | 10, _ => exact hs _ (by decide +kernel)
      | 11, _ => exact hs _ (by decide +kernel)
      | 12, _ => exact hs _ (by decide +kernel)
      | 13, _ => exact hs _ (by decide +kernel)
      | 14, _ => exact hs _ (by decide +kernel)
      | n + 15, h => omega)
    (fun i j hi hj hne => by omega) hA
  have hZ : va_Z "java/lang/String" "COMPACT_STRINGS" "Z" (.int 1) (g_A s.heap.size) s s.heap := va_Zof (hts0 _ (j_tb3 (j := 134) rfl)) (hts0 _ (j_tb1 (j := 15) rfl)) (va_eqi (hs _ (by decide +kernel))) hA
  obtain ⟨h1, h2, h3, h4⟩ := hS.1 0 (by omega)
  exact ⟨adK 0, adV 0, ⟨h1, h2, h3, h4, hZ⟩, vk_R.of (hts0 _ (j_tb3 (j := 120) rfl)) (hev 0 (by omega))⟩
end
