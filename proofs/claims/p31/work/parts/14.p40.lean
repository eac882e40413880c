section Prt40
/-! all rows hold -/
noncomputable def v_Q (L : Nat) (xs : Nat → Int32) (x : Nat) (w : v_Rw) : Prop := (∀ x', ∀ w' ∈ v_rw x', w'.1 < w.1 → v_Met L xs v_ty v_Op x' w') → v_Met L xs v_ty v_Op x w
theorem v_Qc {L : Nat} {xs : Nat → Int32} {hl : List (Nat × Nat × v_Hp)} {x : Nat} {w : v_Rw} (ck : v_C hl x w = true) : v_Q L xs x w := fun ih => v_chk_ok v_fz_ok (fun S0 R0 => v_sp_ok ih) ih ck
noncomputable def v_A1 (Q : Nat → v_Rw → Prop) (x : Nat) : List v_Rw → Prop
  | [] => True
  | w :: l => Q x w ∧ v_A1 Q x l
theorem v_A1n {Q : Nat → v_Rw → Prop} {x : Nat} : v_A1 Q x [] := True.intro
theorem v_A1c {Q : Nat → v_Rw → Prop} {x : Nat} {w : v_Rw} {l : List v_Rw} (h : Q x w) (t : v_A1 Q x l) : v_A1 Q x (w :: l) := show Q x w ∧ v_A1 Q x l from ⟨h, t⟩
theorem v_A1d {Q : Nat → v_Rw → Prop} {x : Nat} {w : v_Rw} {l : List v_Rw} (h : v_A1 Q x (w :: l)) : Q x w ∧ v_A1 Q x l := h
theorem v_A1g {Q : Nat → v_Rw → Prop} {x : Nat} : ∀ {l : List v_Rw} {w : v_Rw}, v_A1 Q x l → w ∈ l → Q x w
  | [], _, _, hw => by cases hw
  | w' :: l, w, h, hw => by
    rcases List.mem_cons.mp hw with e | e
    · rw [e]; exact (v_A1d h).1
    · exact v_A1g (v_A1d h).2 e
noncomputable def v_A2 (Q : Nat → v_Rw → Prop) : Nat → List (List v_Rw) → Prop
  | _, [] => True
  | x, l :: m => v_A1 Q x l ∧ v_A2 Q (x + 1) m
theorem v_A2n {Q : Nat → v_Rw → Prop} {x : Nat} : v_A2 Q x [] := True.intro
theorem v_A2c {Q : Nat → v_Rw → Prop} {x : Nat} {l : List v_Rw} {m : List (List v_Rw)} (h : v_A1 Q x l) (t : v_A2 Q (x + 1) m) : v_A2 Q x (l :: m) := show v_A1 Q x l ∧ v_A2 Q (x + 1) m from ⟨h, t⟩
theorem v_A2d {Q : Nat → v_Rw → Prop} {x : Nat} {l : List v_Rw} {m : List (List v_Rw)} (h : v_A2 Q x (l :: m)) : v_A1 Q x l ∧ v_A2 Q (x + 1) m := h
theorem v_A2g {Q : Nat → v_Rw → Prop} : ∀ {m : List (List v_Rw)} {x i : Nat} {l : List v_Rw}, v_A2 Q x m → m[i]? = some l → v_A1 Q (x + i) l
  | [], _, i, _, _, hl => by simp at hl
  | c :: m, x, 0, l, h, hl => by
    simp only [List.getElem?_cons_zero, Option.some.injEq] at hl
    rw [← hl]; exact (v_A2d h).1
  | c :: m, x, i + 1, l, h, hl => by
    simp only [List.getElem?_cons_succ] at hl
    have := v_A2g (v_A2d h).2 hl
    rw [show x + (i + 1) = x + 1 + i by omega]; exact this
noncomputable def v_A3 (Q : Nat → v_Rw → Prop) : Nat → List (List (List v_Rw)) → Prop
  | _, [] => True
  | x, l :: m => v_A2 Q x l ∧ v_A3 Q (x + 16) m
theorem v_A3n {Q : Nat → v_Rw → Prop} {x : Nat} : v_A3 Q x [] := True.intro
theorem v_A3c {Q : Nat → v_Rw → Prop} {x : Nat} {l : List (List v_Rw)} {m : List (List (List v_Rw))} (h : v_A2 Q x l) (t : v_A3 Q (x + 16) m) : v_A3 Q x (l :: m) := show v_A2 Q x l ∧ v_A3 Q (x + 16) m from ⟨h, t⟩
theorem v_A3d {Q : Nat → v_Rw → Prop} {x : Nat} {l : List (List v_Rw)} {m : List (List (List v_Rw))} (h : v_A3 Q x (l :: m)) : v_A2 Q x l ∧ v_A3 Q (x + 16) m := h
theorem v_A3g {Q : Nat → v_Rw → Prop} : ∀ {m : List (List (List v_Rw))} {x i : Nat} {l : List (List v_Rw)}, v_A3 Q x m → m[i]? = some l → v_A2 Q (x + 16 * i) l
  | [], _, i, _, _, hl => by simp at hl
  | c :: m, x, 0, l, h, hl => by
    simp only [List.getElem?_cons_zero, Option.some.injEq] at hl
    rw [← hl]; exact (v_A3d h).1
  | c :: m, x, i + 1, l, h, hl => by
    simp only [List.getElem?_cons_succ] at hl
    have := v_A3g (v_A3d h).2 hl
    rw [show x + 16 * (i + 1) = x + 16 + 16 * i by omega]; exact this
set_option maxRecDepth 20000 in
theorem v_B0 {L : Nat} {xs : Nat → Int32} : v_A2 (v_Q L xs) 0 v_rw0 := by
  refine v_A2c v_A1n ?_
  refine v_A2c v_A1n ?_
  refine v_A2c (v_A1c (v_Qc ck_0) (v_A1c (v_Qc ck_1) v_A1n)) ?_
  refine v_A2c (v_A1c (v_Qc ck_2) (v_A1c (v_Qc ck_3) v_A1n)) ?_
  refine v_A2c (v_A1c (v_Qc ck_4) (v_A1c (v_Qc ck_5) v_A1n)) ?_
  refine v_A2c (v_A1c (v_Qc ck_6) (v_A1c (v_Qc ck_7) v_A1n)) ?_
  refine v_A2c (v_A1c (v_Qc ck_8) (v_A1c (v_Qc ck_9) v_A1n)) ?_
  refine v_A2c (v_A1c (v_Qc ck_10) (v_A1c (v_Qc ck_11) v_A1n)) ?_
  refine v_A2c (v_A1c (v_Qc ck_12) (v_A1c (v_Qc ck_13) v_A1n)) ?_
  refine v_A2c (v_A1c (v_Qc ck_14) (v_A1c (v_Qc ck_15) v_A1n)) ?_
  refine v_A2c v_A1n ?_
  refine v_A2c (v_A1c (v_Qc ck_16) (v_A1c (v_Qc ck_17) v_A1n)) ?_
  refine v_A2c v_A1n ?_
  refine v_A2c v_A1n ?_
  refine v_A2c v_A1n ?_
  refine v_A2c v_A1n ?_
  exact v_A2n
set_option maxRecDepth 20000 in
theorem v_B1 {L : Nat} {xs : Nat → Int32} : v_A2 (v_Q L xs) 16 v_rw1 := by
  refine v_A2c v_A1n ?_
  refine v_A2c v_A1n ?_
  refine v_A2c v_A1n ?_
  refine v_A2c (v_A1c (v_Qc ck_18) (v_A1c (v_Qc ck_19) (v_A1c (v_Qc ck_20) v_A1n))) ?_
  refine v_A2c (v_A1c (v_Qc ck_21) v_A1n) ?_
  refine v_A2c (v_A1c (v_Qc ck_22) v_A1n) ?_
  refine v_A2c v_A1n ?_
  refine v_A2c (v_A1c (v_Qc ck_23) v_A1n) ?_
  refine v_A2c (v_A1c (v_Qc ck_24) v_A1n) ?_
  refine v_A2c (v_A1c (v_Qc ck_25) v_A1n) ?_
  refine v_A2c (v_A1c (v_Qc ck_26) v_A1n) ?_
  refine v_A2c (v_A1c (v_Qc ck_27) v_A1n) ?_
  refine v_A2c v_A1n ?_
  refine v_A2c (v_A1c (v_Qc ck_28) v_A1n) ?_
  refine v_A2c v_A1n ?_
  refine v_A2c v_A1n ?_
  exact v_A2n
set_option maxRecDepth 20000 in
theorem v_B2 {L : Nat} {xs : Nat → Int32} : v_A2 (v_Q L xs) 32 v_rw2 := by
  refine v_A2c v_A1n ?_
  refine v_A2c v_A1n ?_
  refine v_A2c v_A1n ?_
  refine v_A2c v_A1n ?_
  refine v_A2c v_A1n ?_
  refine v_A2c v_A1n ?_
  refine v_A2c v_A1n ?_
  refine v_A2c (v_A1c (v_Qc ck_29) (v_A1c (v_Qc ck_30) v_A1n)) ?_
  refine v_A2c (v_A1c (v_Qc ck_31) (v_A1c (v_Qc ck_32) v_A1n)) ?_
  refine v_A2c v_A1n ?_
  refine v_A2c (v_A1c (v_Qc ck_33) (v_A1c (v_Qc ck_34) v_A1n)) ?_
  refine v_A2c (v_A1c (v_Qc ck_35) v_A1n) ?_
  refine v_A2c (v_A1c (v_Qc ck_36) v_A1n) ?_
  refine v_A2c v_A1n ?_
  refine v_A2c (v_A1c (v_Qc ck_37) v_A1n) ?_
  refine v_A2c (v_A1c (v_Qc ck_38) v_A1n) ?_
  exact v_A2n
set_option maxRecDepth 20000 in
theorem v_B3 {L : Nat} {xs : Nat → Int32} : v_A2 (v_Q L xs) 48 v_rw3 := by
  refine v_A2c v_A1n ?_
  refine v_A2c (v_A1c (v_Qc ck_39) v_A1n) ?_
  refine v_A2c v_A1n ?_
  refine v_A2c (v_A1c (v_Qc ck_40) (v_A1c (v_Qc ck_41) (v_A1c (v_Qc ck_42) v_A1n))) ?_
  refine v_A2c (v_A1c (v_Qc ck_43) v_A1n) ?_
  refine v_A2c (v_A1c (v_Qc ck_44) (v_A1c (v_Qc ck_45) (v_A1c (v_Qc ck_46) (v_A1c (v_Qc ck_47) (v_A1c (v_Qc ck_48) (v_A1c (v_Qc ck_49) (v_A1c (v_Qc ck_50) (v_A1c (v_Qc ck_51) (v_A1c (v_Qc ck_52) v_A1n))))))))) ?_
  refine v_A2c (v_A1c (v_Qc ck_53) (v_A1c (v_Qc ck_54) (v_A1c (v_Qc ck_55) (v_A1c (v_Qc ck_56) (v_A1c (v_Qc ck_57) (v_A1c (v_Qc ck_58) (v_A1c (v_Qc ck_59) (v_A1c (v_Qc ck_60) (v_A1c (v_Qc ck_61) v_A1n))))))))) ?_
  refine v_A2c v_A1n ?_
  refine v_A2c (v_A1c (v_Qc ck_62) v_A1n) ?_
  refine v_A2c (v_A1c (v_Qc ck_63) v_A1n) ?_
  refine v_A2c (v_A1c (v_Qc ck_64) v_A1n) ?_
  refine v_A2c v_A1n ?_
  refine v_A2c (v_A1c (v_Qc ck_65) v_A1n) ?_
  refine v_A2c (v_A1c (fun ih => hr_X5_readTimetable ih) v_A1n) ?_
  refine v_A2c v_A1n ?_
  refine v_A2c (v_A1c (v_Qc ck_67) v_A1n) ?_
  exact v_A2n
set_option maxRecDepth 20000 in
theorem v_B4 {L : Nat} {xs : Nat → Int32} : v_A2 (v_Q L xs) 64 v_rw4 := by
  refine v_A2c (v_A1c (v_Qc ck_68) v_A1n) ?_
  refine v_A2c (v_A1c (v_Qc ck_69) v_A1n) ?_
  refine v_A2c v_A1n ?_
  refine v_A2c (v_A1c (v_Qc ck_70) v_A1n) ?_
  refine v_A2c v_A1n ?_
  refine v_A2c v_A1n ?_
  refine v_A2c (v_A1c (v_Qc ck_71) (v_A1c (v_Qc ck_72) (v_A1c (v_Qc ck_73) (v_A1c (v_Qc ck_74) (v_A1c (v_Qc ck_75) (v_A1c (v_Qc ck_76) (v_A1c (v_Qc ck_77) v_A1n))))))) ?_
  refine v_A2c (v_A1c (v_Qc ck_78) (v_A1c (v_Qc ck_79) (v_A1c (v_Qc ck_80) (v_A1c (v_Qc ck_81) (v_A1c (v_Qc ck_82) (v_A1c (v_Qc ck_83) v_A1n)))))) ?_
  refine v_A2c (v_A1c (v_Qc ck_84) (v_A1c (v_Qc ck_85) (v_A1c (v_Qc ck_86) (v_A1c (v_Qc ck_87) (v_A1c (v_Qc ck_88) (v_A1c (v_Qc ck_89) v_A1n)))))) ?_
  refine v_A2c (v_A1c (v_Qc ck_90) (v_A1c (v_Qc ck_91) (v_A1c (v_Qc ck_92) (v_A1c (v_Qc ck_93) (v_A1c (v_Qc ck_94) (v_A1c (v_Qc ck_95) v_A1n)))))) ?_
  refine v_A2c (v_A1c (v_Qc ck_96) (v_A1c (v_Qc ck_97) (v_A1c (v_Qc ck_98) (v_A1c (v_Qc ck_99) (v_A1c (v_Qc ck_100) (v_A1c (v_Qc ck_101) (v_A1c (v_Qc ck_102) v_A1n))))))) ?_
  refine v_A2c (v_A1c (v_Qc ck_103) (v_A1c (v_Qc ck_104) (v_A1c (v_Qc ck_105) (v_A1c (v_Qc ck_106) (v_A1c (v_Qc ck_107) (v_A1c (v_Qc ck_108) (v_A1c (v_Qc ck_109) v_A1n))))))) ?_
  refine v_A2c (v_A1c (v_Qc ck_110) (v_A1c (v_Qc ck_111) (v_A1c (v_Qc ck_112) (v_A1c (v_Qc ck_113) (v_A1c (v_Qc ck_114) (v_A1c (v_Qc ck_115) (v_A1c (v_Qc ck_116) v_A1n))))))) ?_
  refine v_A2c (v_A1c (v_Qc ck_117) v_A1n) ?_
  refine v_A2c v_A1n ?_
  refine v_A2c v_A1n ?_
  exact v_A2n
set_option maxRecDepth 20000 in
theorem v_B5 {L : Nat} {xs : Nat → Int32} : v_A2 (v_Q L xs) 80 v_rw5 := by
  refine v_A2c v_A1n ?_
  refine v_A2c v_A1n ?_
  refine v_A2c v_A1n ?_
  refine v_A2c v_A1n ?_
  refine v_A2c (v_A1c (v_Qc ck_118) v_A1n) ?_
  refine v_A2c (v_A1c (v_Qc ck_119) v_A1n) ?_
  refine v_A2c (v_A1c (v_Qc ck_120) v_A1n) ?_
  refine v_A2c v_A1n ?_
  refine v_A2c v_A1n ?_
  refine v_A2c v_A1n ?_
  refine v_A2c v_A1n ?_
  refine v_A2c (v_A1c (v_Qc ck_121) (v_A1c (v_Qc ck_122) v_A1n)) ?_
  refine v_A2c v_A1n ?_
  refine v_A2c (v_A1c (v_Qc ck_123) (v_A1c (v_Qc ck_124) (v_A1c (v_Qc ck_125) v_A1n))) ?_
  refine v_A2c v_A1n ?_
  refine v_A2c v_A1n ?_
  exact v_A2n
set_option maxRecDepth 20000 in
theorem v_B6 {L : Nat} {xs : Nat → Int32} : v_A2 (v_Q L xs) 96 v_rw6 := by
  refine v_A2c (v_A1c (v_Qc ck_126) v_A1n) ?_
  refine v_A2c (v_A1c (v_Qc ck_127) v_A1n) ?_
  refine v_A2c v_A1n ?_
  refine v_A2c v_A1n ?_
  refine v_A2c v_A1n ?_
  refine v_A2c v_A1n ?_
  refine v_A2c v_A1n ?_
  refine v_A2c v_A1n ?_
  refine v_A2c (v_A1c (v_Qc ck_128) v_A1n) ?_
  refine v_A2c v_A1n ?_
  refine v_A2c (v_A1c (v_Qc ck_129) (v_A1c (v_Qc ck_130) (v_A1c (v_Qc ck_131) (v_A1c (v_Qc ck_132) (v_A1c (v_Qc ck_133) (v_A1c (v_Qc ck_134) (v_A1c (v_Qc ck_135) v_A1n))))))) ?_
  refine v_A2c v_A1n ?_
  refine v_A2c (v_A1c (v_Qc ck_136) v_A1n) ?_
  refine v_A2c (v_A1c (v_Qc ck_137) v_A1n) ?_
  refine v_A2c v_A1n ?_
  refine v_A2c (v_A1c (v_Qc ck_138) v_A1n) ?_
  exact v_A2n
set_option maxRecDepth 20000 in
theorem v_B7 {L : Nat} {xs : Nat → Int32} : v_A2 (v_Q L xs) 112 v_rw7 := by
  refine v_A2c (v_A1c (v_Qc ck_139) v_A1n) ?_
  refine v_A2c (v_A1c (v_Qc ck_140) v_A1n) ?_
  refine v_A2c (v_A1c (v_Qc ck_141) v_A1n) ?_
  refine v_A2c (v_A1c (v_Qc ck_142) v_A1n) ?_
  refine v_A2c (v_A1c (v_Qc ck_143) v_A1n) ?_
  refine v_A2c (v_A1c (v_Qc ck_144) v_A1n) ?_
  refine v_A2c (v_A1c (v_Qc ck_145) v_A1n) ?_
  refine v_A2c (v_A1c (v_Qc ck_146) v_A1n) ?_
  refine v_A2c (v_A1c (v_Qc ck_147) v_A1n) ?_
  refine v_A2c (v_A1c (v_Qc ck_148) v_A1n) ?_
  refine v_A2c (v_A1c (v_Qc ck_149) v_A1n) ?_
  refine v_A2c (v_A1c (v_Qc ck_150) v_A1n) ?_
  refine v_A2c (v_A1c (v_Qc ck_151) v_A1n) ?_
  refine v_A2c (v_A1c (v_Qc ck_152) v_A1n) ?_
  refine v_A2c (v_A1c (v_Qc ck_153) v_A1n) ?_
  refine v_A2c (v_A1c (v_Qc ck_154) v_A1n) ?_
  exact v_A2n
set_option maxRecDepth 20000 in
theorem v_B8 {L : Nat} {xs : Nat → Int32} : v_A2 (v_Q L xs) 128 v_rw8 := by
  refine v_A2c (v_A1c (v_Qc ck_155) v_A1n) ?_
  refine v_A2c (v_A1c (v_Qc ck_156) v_A1n) ?_
  refine v_A2c (v_A1c (v_Qc ck_157) v_A1n) ?_
  refine v_A2c (v_A1c (v_Qc ck_158) v_A1n) ?_
  refine v_A2c (v_A1c (v_Qc ck_159) v_A1n) ?_
  refine v_A2c (v_A1c (v_Qc ck_160) v_A1n) ?_
  refine v_A2c (v_A1c (v_Qc ck_161) v_A1n) ?_
  refine v_A2c (v_A1c (v_Qc ck_162) v_A1n) ?_
  refine v_A2c (v_A1c (v_Qc ck_163) v_A1n) ?_
  refine v_A2c (v_A1c (v_Qc ck_164) v_A1n) ?_
  refine v_A2c (v_A1c (v_Qc ck_165) v_A1n) ?_
  refine v_A2c (v_A1c (v_Qc ck_166) v_A1n) ?_
  refine v_A2c (v_A1c (v_Qc ck_167) v_A1n) ?_
  refine v_A2c (v_A1c (v_Qc ck_168) v_A1n) ?_
  refine v_A2c (v_A1c (v_Qc ck_169) v_A1n) ?_
  refine v_A2c (v_A1c (v_Qc ck_170) v_A1n) ?_
  exact v_A2n
set_option maxRecDepth 20000 in
theorem v_B9 {L : Nat} {xs : Nat → Int32} : v_A2 (v_Q L xs) 144 v_rw9 := by
  refine v_A2c (v_A1c (v_Qc ck_171) v_A1n) ?_
  refine v_A2c (v_A1c (v_Qc ck_172) v_A1n) ?_
  refine v_A2c (v_A1c (v_Qc ck_173) v_A1n) ?_
  refine v_A2c v_A1n ?_
  refine v_A2c v_A1n ?_
  refine v_A2c v_A1n ?_
  refine v_A2c v_A1n ?_
  refine v_A2c v_A1n ?_
  refine v_A2c v_A1n ?_
  refine v_A2c (v_A1c (v_Qc ck_174) v_A1n) ?_
  refine v_A2c (v_A1c (v_Qc ck_175) v_A1n) ?_
  refine v_A2c (v_A1c (v_Qc ck_176) v_A1n) ?_
  refine v_A2c (v_A1c (v_Qc ck_177) v_A1n) ?_
  refine v_A2c (v_A1c (v_Qc ck_178) v_A1n) ?_
  refine v_A2c (v_A1c (v_Qc ck_179) v_A1n) ?_
  refine v_A2c v_A1n ?_
  exact v_A2n
set_option maxRecDepth 20000 in
theorem v_B10 {L : Nat} {xs : Nat → Int32} : v_A2 (v_Q L xs) 160 v_rw10 := by
  refine v_A2c v_A1n ?_
  refine v_A2c v_A1n ?_
  refine v_A2c v_A1n ?_
  refine v_A2c (v_A1c (v_Qc ck_180) v_A1n) ?_
  refine v_A2c v_A1n ?_
  refine v_A2c (v_A1c (v_Qc ck_181) v_A1n) ?_
  refine v_A2c (v_A1c (v_Qc ck_182) v_A1n) ?_
  refine v_A2c v_A1n ?_
  refine v_A2c v_A1n ?_
  refine v_A2c v_A1n ?_
  refine v_A2c v_A1n ?_
  refine v_A2c v_A1n ?_
  refine v_A2c v_A1n ?_
  refine v_A2c v_A1n ?_
  refine v_A2c v_A1n ?_
  refine v_A2c v_A1n ?_
  exact v_A2n
set_option maxRecDepth 20000 in
theorem v_B11 {L : Nat} {xs : Nat → Int32} : v_A2 (v_Q L xs) 176 v_rw11 := by
  refine v_A2c v_A1n ?_
  refine v_A2c v_A1n ?_
  refine v_A2c v_A1n ?_
  refine v_A2c v_A1n ?_
  refine v_A2c v_A1n ?_
  refine v_A2c v_A1n ?_
  refine v_A2c v_A1n ?_
  refine v_A2c v_A1n ?_
  refine v_A2c v_A1n ?_
  refine v_A2c v_A1n ?_
  refine v_A2c v_A1n ?_
  refine v_A2c v_A1n ?_
  refine v_A2c v_A1n ?_
  refine v_A2c v_A1n ?_
  refine v_A2c v_A1n ?_
  refine v_A2c v_A1n ?_
  exact v_A2n
set_option maxRecDepth 20000 in
theorem v_B12 {L : Nat} {xs : Nat → Int32} : v_A2 (v_Q L xs) 192 v_rw12 := by
  refine v_A2c v_A1n ?_
  refine v_A2c (v_A1c (fun ih => hr_X12_law ih) v_A1n) ?_
  refine v_A2c (v_A1c (fun ih => hr_X12_rules ih) v_A1n) ?_
  refine v_A2c (v_A1c (v_Qc ck_185) v_A1n) ?_
  refine v_A2c (v_A1c (v_Qc ck_186) v_A1n) ?_
  refine v_A2c (v_A1c (v_Qc ck_187) v_A1n) ?_
  refine v_A2c v_A1n ?_
  refine v_A2c v_A1n ?_
  refine v_A2c (v_A1c (v_Qc ck_188) v_A1n) ?_
  refine v_A2c (v_A1c (v_Qc ck_189) v_A1n) ?_
  refine v_A2c v_A1n ?_
  refine v_A2c (v_A1c (v_Qc ck_190) v_A1n) ?_
  refine v_A2c (v_A1c (v_Qc ck_191) v_A1n) ?_
  refine v_A2c v_A1n ?_
  refine v_A2c v_A1n ?_
  refine v_A2c (v_A1c (v_Qc ck_192) v_A1n) ?_
  exact v_A2n
set_option maxRecDepth 20000 in
theorem v_B13 {L : Nat} {xs : Nat → Int32} : v_A2 (v_Q L xs) 208 v_rw13 := by
  refine v_A2c v_A1n ?_
  refine v_A2c v_A1n ?_
  refine v_A2c v_A1n ?_
  refine v_A2c v_A1n ?_
  refine v_A2c v_A1n ?_
  refine v_A2c (v_A1c (v_Qc ck_193) v_A1n) ?_
  refine v_A2c (v_A1c (v_Qc ck_194) v_A1n) ?_
  refine v_A2c (v_A1c (v_Qc ck_195) v_A1n) ?_
  refine v_A2c (v_A1c (v_Qc ck_196) v_A1n) ?_
  refine v_A2c (v_A1c (v_Qc ck_197) v_A1n) ?_
  refine v_A2c (v_A1c (v_Qc ck_198) v_A1n) ?_
  refine v_A2c (v_A1c (v_Qc ck_199) v_A1n) ?_
  refine v_A2c (v_A1c (v_Qc ck_200) v_A1n) ?_
  refine v_A2c (v_A1c (v_Qc ck_201) v_A1n) ?_
  refine v_A2c v_A1n ?_
  refine v_A2c v_A1n ?_
  exact v_A2n
set_option maxRecDepth 20000 in
theorem v_B14 {L : Nat} {xs : Nat → Int32} : v_A2 (v_Q L xs) 224 v_rw14 := by
  refine v_A2c v_A1n ?_
  refine v_A2c (v_A1c (fun ih => hr_X12_timetable ih) v_A1n) ?_
  refine v_A2c v_A1n ?_
  refine v_A2c v_A1n ?_
  refine v_A2c (v_A1c (v_Qc ck_203) v_A1n) ?_
  refine v_A2c v_A1n ?_
  refine v_A2c (v_A1c (v_Qc ck_204) v_A1n) ?_
  refine v_A2c (v_A1c (v_Qc ck_205) v_A1n) ?_
  refine v_A2c (v_A1c (v_Qc ck_206) v_A1n) ?_
  refine v_A2c (v_A1c (v_Qc ck_207) v_A1n) ?_
  refine v_A2c (v_A1c (v_Qc ck_208) v_A1n) ?_
  refine v_A2c (v_A1c (v_Qc ck_209) v_A1n) ?_
  refine v_A2c (v_A1c (v_Qc ck_210) v_A1n) ?_
  refine v_A2c (v_A1c (v_Qc ck_211) v_A1n) ?_
  refine v_A2c (v_A1c (v_Qc ck_212) v_A1n) ?_
  refine v_A2c (v_A1c (v_Qc ck_213) v_A1n) ?_
  exact v_A2n
set_option maxRecDepth 20000 in
theorem v_B15 {L : Nat} {xs : Nat → Int32} : v_A2 (v_Q L xs) 240 v_rw15 := by
  refine v_A2c (v_A1c (v_Qc ck_214) v_A1n) ?_
  refine v_A2c (v_A1c (v_Qc ck_215) v_A1n) ?_
  refine v_A2c v_A1n ?_
  refine v_A2c (v_A1c (v_Qc ck_216) v_A1n) ?_
  refine v_A2c (v_A1c (v_Qc ck_217) v_A1n) ?_
  refine v_A2c (v_A1c (v_Qc ck_218) v_A1n) ?_
  refine v_A2c (v_A1c (v_Qc ck_219) v_A1n) ?_
  refine v_A2c (v_A1c (v_Qc ck_220) v_A1n) ?_
  refine v_A2c (v_A1c (v_Qc ck_221) v_A1n) ?_
  refine v_A2c (v_A1c (v_Qc ck_222) v_A1n) ?_
  refine v_A2c v_A1n ?_
  refine v_A2c v_A1n ?_
  refine v_A2c v_A1n ?_
  refine v_A2c (v_A1c (v_Qc ck_223) v_A1n) ?_
  refine v_A2c (v_A1c (v_Qc ck_224) v_A1n) ?_
  refine v_A2c (v_A1c (v_Qc ck_225) v_A1n) ?_
  exact v_A2n
set_option maxRecDepth 20000 in
theorem v_B16 {L : Nat} {xs : Nat → Int32} : v_A2 (v_Q L xs) 256 v_rw16 := by
  refine v_A2c v_A1n ?_
  refine v_A2c (v_A1c (v_Qc ck_226) v_A1n) ?_
  refine v_A2c (v_A1c (v_Qc ck_227) v_A1n) ?_
  refine v_A2c (v_A1c (v_Qc ck_228) v_A1n) ?_
  refine v_A2c (v_A1c (v_Qc ck_229) v_A1n) ?_
  refine v_A2c v_A1n ?_
  refine v_A2c (v_A1c (v_Qc ck_230) v_A1n) ?_
  refine v_A2c (v_A1c (v_Qc ck_231) v_A1n) ?_
  refine v_A2c (v_A1c (v_Qc ck_232) v_A1n) ?_
  refine v_A2c (v_A1c (v_Qc ck_233) v_A1n) ?_
  refine v_A2c (v_A1c (v_Qc ck_234) v_A1n) ?_
  refine v_A2c (v_A1c (v_Qc ck_235) v_A1n) ?_
  refine v_A2c (v_A1c (v_Qc ck_236) v_A1n) ?_
  refine v_A2c (v_A1c (v_Qc ck_237) v_A1n) ?_
  refine v_A2c (v_A1c (fun ih => hr_X12_laysLessons ih) v_A1n) ?_
  refine v_A2c (v_A1c (v_Qc ck_239) v_A1n) ?_
  exact v_A2n
set_option maxRecDepth 20000 in
theorem v_B17 {L : Nat} {xs : Nat → Int32} : v_A2 (v_Q L xs) 272 v_rw17 := by
  refine v_A2c (v_A1c (v_Qc ck_240) v_A1n) ?_
  refine v_A2c (v_A1c (v_Qc ck_241) v_A1n) ?_
  refine v_A2c (v_A1c (v_Qc ck_242) v_A1n) ?_
  refine v_A2c (v_A1c (v_Qc ck_243) v_A1n) ?_
  refine v_A2c (v_A1c (v_Qc ck_244) v_A1n) ?_
  refine v_A2c (v_A1c (fun ih => hr_X12_laysPlaces ih) v_A1n) ?_
  refine v_A2c (v_A1c (v_Qc ck_246) v_A1n) ?_
  refine v_A2c (v_A1c (fun ih => hr_X12_fair ih) v_A1n) ?_
  refine v_A2c (v_A1c (v_Qc ck_248) v_A1n) ?_
  refine v_A2c (v_A1c (v_Qc ck_249) v_A1n) ?_
  refine v_A2c (v_A1c (v_Qc ck_250) v_A1n) ?_
  refine v_A2c (v_A1c (v_Qc ck_251) v_A1n) ?_
  refine v_A2c (v_A1c (v_Qc ck_252) (v_A1c (v_Qc ck_253) (v_A1c (v_Qc ck_254) (v_A1c (v_Qc ck_255) (v_A1c (v_Qc ck_256) (v_A1c (v_Qc ck_257) (v_A1c (v_Qc ck_258) (v_A1c (v_Qc ck_259) v_A1n)))))))) ?_
  refine v_A2c (v_A1c (v_Qc ck_260) v_A1n) ?_
  refine v_A2c v_A1n ?_
  refine v_A2c (v_A1c (v_Qc ck_261) v_A1n) ?_
  exact v_A2n
set_option maxRecDepth 20000 in
theorem v_B18 {L : Nat} {xs : Nat → Int32} : v_A2 (v_Q L xs) 288 v_rw18 := by
  refine v_A2c (v_A1c (fun ih => hr_X12_nursed ih) v_A1n) ?_
  refine v_A2c v_A1n ?_
  refine v_A2c (v_A1c (fun ih => hr_X12_round ih) v_A1n) ?_
  refine v_A2c v_A1n ?_
  refine v_A2c (v_A1c (v_Qc ck_264) v_A1n) ?_
  refine v_A2c (v_A1c (v_Qc ck_265) v_A1n) ?_
  refine v_A2c (v_A1c (v_Qc ck_266) v_A1n) ?_
  refine v_A2c (v_A1c (v_Qc ck_267) v_A1n) ?_
  refine v_A2c (v_A1c (v_Qc ck_268) v_A1n) ?_
  refine v_A2c (v_A1c (v_Qc ck_269) v_A1n) ?_
  refine v_A2c (v_A1c (v_Qc ck_270) v_A1n) ?_
  refine v_A2c (v_A1c (fun ih => hr_J6_bitCount_0f7a4 ih) v_A1n) ?_
  refine v_A2c (v_A1c (v_Qc ck_271) (v_A1c (v_Qc ck_272) (v_A1c (v_Qc ck_273) (v_A1c (v_Qc ck_274) (v_A1c (v_Qc ck_275) v_A1n))))) ?_
  exact v_A2n
theorem v_BT {L : Nat} {xs : Nat → Int32} : v_A3 (v_Q L xs) 0 v_rwT := by
  refine v_A3c v_B0 ?_
  refine v_A3c v_B1 ?_
  refine v_A3c v_B2 ?_
  refine v_A3c v_B3 ?_
  refine v_A3c v_B4 ?_
  refine v_A3c v_B5 ?_
  refine v_A3c v_B6 ?_
  refine v_A3c v_B7 ?_
  refine v_A3c v_B8 ?_
  refine v_A3c v_B9 ?_
  refine v_A3c v_B10 ?_
  refine v_A3c v_B11 ?_
  refine v_A3c v_B12 ?_
  refine v_A3c v_B13 ?_
  refine v_A3c v_B14 ?_
  refine v_A3c v_B15 ?_
  refine v_A3c v_B16 ?_
  refine v_A3c v_B17 ?_
  refine v_A3c v_B18 ?_
  exact v_A3n
theorem v_rows_ok {L : Nat} {xs : Nat → Int32} (x : Nat) (w : v_Rw) (hw : w ∈ v_rw x) (ih : ∀ x, ∀ w' ∈ v_rw x, w'.1 < w.1 → v_Met L xs v_ty v_Op x w') : v_Met L xs v_ty v_Op x w := by
  unfold v_rw at hw
  split at hw
  · rename_i r hr
    rw [q_nth_eq] at hr
    split at hw
    · rename_i l hl
      rw [q_nth_eq] at hl
      have h := v_A1g (v_A2g (v_A3g (v_BT (L := L) (xs := xs)) hr) hl) hw
      rw [show 0 + 16 * (x / 16) + x % 16 = x by omega] at h
      exact h ih
    · cases hw
  · cases hw
theorem v_met {L : Nat} {xs : Nat → Int32} : ∀ (n x : Nat) (w : v_Rw), w ∈ v_rw x → w.1 < n → v_Met L xs v_ty v_Op x w
  | 0, _, _, _, h => by omega
  | n + 1, x, w, hw, h => v_rows_ok x w hw (fun x' w' hw' h' => v_met n x' w' hw' (by omega))
end Prt40
section Prt41
/-! the start: both objects are made -/
noncomputable def g_arl (ins : Instr) (st : List Value) : Bool := match ins, st with
  | .arraylength, .ref 0 :: _ => true
  | _, _ => false
noncomputable def g_sC (d nL : Nat) (en : g_En) (pc : Nat) (ls : g_Lc) (st : List Value) (σ : List g_Ce) : Option (Nat × g_Lc × List Value × List g_Ce) := bif g_arl en.1.1 st then none else g_step d nL 0 (fun _ => 0) en pc ls st σ
noncomputable abbrev g_Rc : Type := Nat → g_M → Nat → g_Lc → List Value → List g_Ce → Option (Option Value × List g_Ce)
/-- the pure machine where the script isn't asked -/
noncomputable def g_rC (fuel : Nat) : g_Rc := Nat.rec (motive := fun _ => g_Rc) (fun _ _ _ _ _ _ => none) (fun _ ih d M pc ls st σ => match M.2.2.2.2.2 pc with
  | none => none
  | some en => match g_sC d M.2.2.2.1 en pc ls st σ with
    | some q => ih d M q.1 q.2.1 q.2.2.1 q.2.2.2
    | none => bif g_arl en.1.1 st then none else match g_rt en.1.1 M.2.2.2.2.1 st with
      | some r => some (r, σ)
      | none => match g_ki en.1.1 with
        | none => none
        | some k => match d with
          | 0 => none
          | Nat.succ d' => bif en.2.1 == 99999 then (match g_oi k st with
            | some rest => ih (d' + 1) M (pc + 3) ls rest σ
            | none => none) else
            match g_mt en.2.1 with
            | none => none
            | some M' => match g_cl k en.2.2.1 M'.1 st σ with
              | none => none
              | some q => bif decide (g_cat q.2 ≤ 8) && decide ((lg_sl q.1).length ≤ M'.2.2.2.1) then
                  (match ih d' M' 0 (lv_args 0 q.1) [] σ with
                  | none => none
                  | some w => ih (d' + 1) M (pc + 3) ls (w.1.toList ++ q.2) w.2) else none) fuel
theorem g_ia_0 {st : List Value} {σ : List g_Ce} {q : List Value × List g_Ce} (h : g_ia 0 (fun _ => 0) st σ = some q) (L : Nat) (xs : Nat → Int32) : g_ia L xs st σ = some q := by
  have ho : ∀ i, g_out i 0 = true := fun i => by unfold g_out; simp
  match st, h with
  | .int i :: .ref 0 :: r, h =>
    have h : (bif g_out i 0 then none else some (Value.int 0 :: r, σ)) = some q := h
    rw [ho] at h
    cases h
  | .int i :: .ref (a + 1) :: r, h => exact h
theorem g_al_0 {st : List Value} {σ : List g_Ce} {q : List Value × List g_Ce} (ha : g_arl .arraylength st = false) (h : g_al 0 st σ = some q) (L : Nat) : g_al L st σ = some q := by
  match st, ha, h with
  | .ref 0 :: r, ha, _ => cases ha
  | .ref (a + 1) :: r, _, h => exact h
theorem g_sC_some {d nL : Nat} {en : g_En} {pc : Nat} {ls : g_Lc} {st : List Value} {σ : List g_Ce} {q : Nat × g_Lc × List Value × List g_Ce} (h : g_sC d nL en pc ls st σ = some q) (L : Nat) (xs : Nat → Int32) : g_step d nL L xs en pc ls st σ = some q := by
  unfold g_sC at h
  cases ha : g_arl en.1.1 st with
  | true => rw [ha] at h; cases h
  | false =>
    rw [ha] at h
    have h : g_step d nL 0 (fun _ => 0) en pc ls st σ = some q := h
    have key : ∀ q, g_hp d 0 (fun _ => 0) en.1.1 en.2.1 en.2.2.1 st σ = some q → g_hp d L xs en.1.1 en.2.1 en.2.2.1 st σ = some q := by
      intro q hq
      generalize en.1.1 = ins at hq ha
      cases ins <;> first | exact hq | skip
      · exact g_al_0 ha hq L
      · exact g_ia_0 hq L xs
    unfold g_step at h
    split at h
    · rename_i st' h1
      cases h
      exact g_st_stk h1
    · rename_i h1
      split at h
      · rename_i q' h2
        cases h
        exact g_st_lcl h1 h2
      · rename_i h2
        split at h
        · rename_i q' h3
          cases h
          exact g_st_jmp h1 h2 h3
        · rename_i h3
          split at h
          · rename_i q' h4
            cases h
            exact g_st_hp h1 h2 h3 (key _ h4)
          · cases h
theorem g_sC_none {d nL : Nat} {en : g_En} {pc : Nat} {ls : g_Lc} {st : List Value} {σ : List g_Ce} {k : Nat} (ha : g_arl en.1.1 st = false) (h : g_sC d nL en pc ls st σ = none) (hk : g_ki en.1.1 = some k) (L : Nat) (xs : Nat → Int32) : g_step d nL L xs en pc ls st σ = none := by
  unfold g_sC at h
  rw [ha] at h
  have h : g_step d nL 0 (fun _ => 0) en pc ls st σ = none := h
  obtain ⟨⟨ins, len⟩, x, y, z⟩ := en
  unfold g_ki at hk
  dsimp only at hk
  split at hk <;> first | exact h | cases hk
theorem g_rC_s (n d : Nat) (M : g_M) (pc : Nat) (ls : g_Lc) (st : List Value) (σ : List g_Ce) : g_rC (n + 1) d M pc ls st σ = (match M.2.2.2.2.2 pc with
      | none => none
      | some en => match g_sC d M.2.2.2.1 en pc ls st σ with
        | some q => g_rC n d M q.1 q.2.1 q.2.2.1 q.2.2.2
        | none => bif g_arl en.1.1 st then none else match g_rt en.1.1 M.2.2.2.2.1 st with
          | some r => some (r, σ)
          | none => match g_ki en.1.1 with
            | none => none
            | some k => match d with
              | 0 => none
              | Nat.succ d' => bif en.2.1 == 99999 then (match g_oi k st with
                | some rest => g_rC n (d' + 1) M (pc + 3) ls rest σ
                | none => none) else
                match g_mt en.2.1 with
                | none => none
                | some M' => match g_cl k en.2.2.1 M'.1 st σ with
                  | none => none
                  | some q => bif decide (g_cat q.2 ≤ 8) && decide ((lg_sl q.1).length ≤ M'.2.2.2.1) then
                      (match g_rC n d' M' 0 (lv_args 0 q.1) [] σ with
                      | none => none
                      | some w => g_rC n (d' + 1) M (pc + 3) ls (w.1.toList ++ q.2) w.2) else none) := rfl
theorem g_rC_ok (L : Nat) (xs : Nat → Int32) : ∀ (n d : Nat) (M : g_M) (pc : Nat) (ls : g_Lc) (st : List Value) (σ : List g_Ce) (r : Option Value × List g_Ce), g_rC n d M pc ls st σ = some r → g_run g_mt L xs n d M pc ls st σ = some r := by
  intro n
  induction n with
  | zero => intro d M pc ls st σ r h; cases h
  | succ n ih =>
    intro d M pc ls st σ r h
    rw [g_rC_s] at h
    split at h
    · cases h
    · rename_i en hen
      split at h
      · rename_i q hs
        rw [g_run_step hen (g_sC_some hs L xs)]
        exact ih _ _ _ _ _ _ _ h
      · rename_i hs
        cases ha : g_arl en.1.1 st with
        | true => rw [ha] at h; cases h
        | false =>
          rw [ha] at h
          dsimp only [cond_false] at h
          split at h
          · rename_i r0 hrt
            cases h
            exact g_run_ret hen (g_step_ret hrt) hrt
          · rename_i hrt
            split at h
            · cases h
            · rename_i k hk
              cases d with
              | zero => cases h
              | succ e =>
                have hs2 := g_sC_none ha hs hk L xs
                obtain ⟨⟨ins, len⟩, x, y, z⟩ := en
                dsimp only at h hrt hk
                cases hx : (x == 99999) with
                | true =>
                  rw [hx] at h
                  dsimp only [cond_true] at h
                  split at h
                  · rename_i ho
                    rw [g_run_oi hen hs2 hrt hk hx ho]
                    exact ih _ _ _ _ _ _ _ h
                  · cases h
                | false =>
                  rw [hx] at h
                  dsimp only [cond_false] at h
                  split at h
                  · cases h
                  · rename_i M' hM'
                    split at h
                    · cases h
                    · rename_i q hq
                      cases hc : (decide (g_cat q.2 ≤ 8) && decide ((lg_sl q.1).length ≤ M'.2.2.2.1)) with
                      | false => rw [hc] at h; cases h
                      | true =>
                        rw [hc] at h
                        dsimp only [cond_true] at h
                        rw [Bool.and_eq_true, decide_eq_true_eq, decide_eq_true_eq] at hc
                        split at h
                        · cases h
                        · rename_i w hw
                          rw [g_run_call hen hs2 hrt hk hx hM' hq hc.1 hc.2 (ih _ _ _ _ _ _ _ hw)]
                          exact ih _ _ _ _ _ _ _ h
/-- more fuel does no harm -/
theorem g_run_n (L : Nat) (xs : Nat → Int32) : ∀ (n d : Nat) (M : g_M) (pc : Nat) (ls : g_Lc) (st : List Value) (σ : List g_Ce) (r : Option Value × List g_Ce), g_run g_mt L xs n d M pc ls st σ = some r → g_run g_mt L xs (n + 1) d M pc ls st σ = some r := by
  intro n
  induction n with
  | zero => intro d M pc ls st σ r h; simp [g_run] at h
  | succ n ih =>
    intro d M pc ls st σ r h
    rw [g_run] at h
    split at h
    · rename_i hn
      split at h
      · rename_i hm
        rw [g_run]
        simp only [hn, hm]
        exact ih _ _ _ _ _ _ _ h
      · cases h
    · rename_i en hen
      split at h
      · rename_i q hs
        rw [g_run_step hen hs]
        exact ih _ _ _ _ _ _ _ h
      · rename_i hs
        split at h
        · rename_i r0 hrt
          cases h
          exact g_run_ret hen hs hrt
        · rename_i hrt
          split at h
          · cases h
          · rename_i k hk
            cases d with
            | zero => cases h
            | succ e =>
              obtain ⟨⟨ins, len⟩, x, y, z⟩ := en
              dsimp only at h hrt hk
              cases hx : (x == 99999) with
              | true =>
                rw [hx] at h
                dsimp only [cond_true] at h
                split at h
                · rename_i ho
                  rw [g_run_oi hen hs hrt hk hx ho]
                  exact ih _ _ _ _ _ _ _ h
                · cases h
              | false =>
                rw [hx] at h
                dsimp only [cond_false] at h
                split at h
                · cases h
                · rename_i M' hM'
                  split at h
                  · cases h
                  · rename_i q hq
                    cases hc : (decide (g_cat q.2 ≤ 8) && decide ((lg_sl q.1).length ≤ M'.2.2.2.1)) with
                    | false => rw [hc] at h; cases h
                    | true =>
                      rw [hc] at h
                      dsimp only [cond_true] at h
                      rw [Bool.and_eq_true, decide_eq_true_eq, decide_eq_true_eq] at hc
                      split at h
                      · cases h
                      · rename_i w hw
                        rw [g_run_call hen hs hrt hk hx hM' hq hc.1 hc.2 (ih _ _ _ _ _ _ _ hw)]
                        exact ih _ _ _ _ _ _ _ h
theorem g_run_m (L : Nat) (xs : Nat → Int32) {n : Nat} (k : Nat) {d : Nat} {M : g_M} {pc : Nat} {ls : g_Lc} {st : List Value} {σ : List g_Ce} {r : Option Value × List g_Ce} (h : g_run g_mt L xs n d M pc ls st σ = some r) : g_run g_mt L xs (n + k) d M pc ls st σ = some r := by
  induction k with
  | zero => exact h
  | succ k ih => exact g_run_n L xs (n + k) d M pc ls st σ r ih
noncomputable abbrev m_X11_init : g_M := (g_cn 11, yX11_init, cX11_init, 5, none, g_look2 ttX11_init)
set_option maxRecDepth 20000 in
theorem mt_X11_init : g_mt 110 = some m_X11_init := rfl
noncomputable abbrev m_X12_init : g_M := (g_cn 12, yX12_init, cX12_init, 2, none, g_look2 ttX12_init)
set_option maxRecDepth 20000 in
theorem mt_X12_init : g_mt 159 = some m_X12_init := rfl
noncomputable def v_w1 : Option (Option Value × List g_Ce) := g_rC 3000 59 m_X11_init 0 [(0, .ref 1)] [] [.inr (11, g_df 11)]
noncomputable def v_s1 : List g_Ce := match v_w1 with
  | some w => w.2
  | none => []
noncomputable def v_w2 : Option (Option Value × List g_Ce) := g_rC 3000 59 m_X12_init 0 [(0, .ref 100)] [] (v_s1 ++ [.inr (12, g_df 12)])
noncomputable def v_s0 : List g_Ce := match v_w2 with
  | some w => w.2
  | none => []
noncomputable def v_isV (w : Option (Option Value × List g_Ce)) : Bool := match w with
  | some (none, _) => true
  | _ => false
noncomputable def v_S0 : v_Sf := fun a => match v_s0[a]? with
  | some (.inl (_, _, .inl f)) => f
  | some (.inr (_, fs)) => fun j => (match fs[j]? with
    | some (.int v) => v
    | _ => 0)
  | _ => fun _ => 0
noncomputable def v_R0 : v_Rf := fun a => match v_s0[a]? with
  | some (.inl (_, _, .inr f)) => f
  | some (.inr (_, fs)) => fun j => (match fs[j]? with
    | some (.ref r) => some r
    | _ => none)
  | _ => fun _ => none
noncomputable def v_okf (t : Option v_Ft) (v : Option Value) : Bool := match t, v with
  | some (.inl b), some (.int x) => q_ile b.1 x.toInt && q_ile x.toInt b.2
  | some (.inr (.inl k)), some (.ref r) => Nat.beq r k
  | some (.inr (.inr l)), some (.ref r) => l.contains r
  | _, _ => false
noncomputable def v_okc (t : v_Ct) (c : g_Ce) : Bool := match t, c with
  | .inl (tg, n, lo, hi), .inl (tg', n', .inl f) => (Nat.beq tg tg' && Nat.beq n n') && (List.range n).all (fun j => q_ile lo (f j).toInt && q_ile (f j).toInt hi)
  | .inr (.inl l), .inl (tg', n', .inr f) => (Nat.beq tg' 3 && Nat.beq l.length n') && (List.range l.length).all (fun j => decide (f j = l[j]?))
  | .inr (.inr (ci, ts)), .inr (ci', fs) => (Nat.beq ci ci' && Nat.beq ts.length fs.length) && (List.range ts.length).all (fun j => v_okf ts[j]? fs[j]?)
  | _, _ => false
noncomputable def v_okS (σ : List g_Ce) : Bool := Nat.beq σ.length v_N && (List.range v_N).all (fun a => match v_ty a, σ[a]? with
  | some t, some c => v_okc t c
  | _, _ => false)
set_option maxRecDepth 100000 in
theorem v_wall : (((v_isV v_w1 && Nat.beq v_s1.length 99) && v_isV v_w2) && (v_okS v_s0 && (q_ieq (v_S0 99 16).toInt 0 && q_ieq (v_S0 99 17).toInt 0))) = true := by decide +kernel
theorem v_wab {a b c : Bool} (h : ((a && b) && c) = true) : a = true ∧ b = true ∧ c = true := by
  rw [Bool.and_eq_true, Bool.and_eq_true] at h
  exact ⟨h.1.1, h.1.2, h.2⟩
theorem v_w1_ok : (v_isV v_w1 && Nat.beq v_s1.length 99) = true := (v_wab v_wall).1
theorem v_w2_ok : v_isV v_w2 = true := (v_wab v_wall).2.1
theorem v_s0_ok : (v_okS v_s0 && (q_ieq (v_S0 99 16).toInt 0 && q_ieq (v_S0 99 17).toInt 0)) = true := (v_wab v_wall).2.2
theorem v_okS_cell {a : Nat} (ha : a < v_N) : ∃ t c, v_ty a = some t ∧ v_s0[a]? = some c ∧ v_okc t c = true := by
  have h := v_s0_ok
  rw [Bool.and_eq_true] at h
  have h1 := h.1
  unfold v_okS at h1
  rw [Bool.and_eq_true] at h1
  have h2 := List.all_eq_true.mp h1.2 a (List.mem_range.mpr ha)
  split at h2
  · rename_i t c ht hc
    exact ⟨t, c, ht, hc, h2⟩
  · cases h2
theorem v_s0_mk : v_s0 = v_mk v_ty v_S0 v_R0 := by
  have hlen : v_s0.length = v_N := by
    have h := v_s0_ok
    rw [Bool.and_eq_true] at h
    have h1 := h.1
    unfold v_okS at h1
    rw [Bool.and_eq_true] at h1
    exact Nat.eq_of_beq_eq_true h1.1
  apply List.ext_getElem?
  intro a
  rw [v_mk_get]
  by_cases ha : a < v_N
  · rw [if_pos ha]
    obtain ⟨t, c, ht, hc, hok⟩ := v_okS_cell ha
    rw [hc, ht]
    refine congrArg some ?_
    unfold v_okc at hok
    split at hok
    · rename_i tg n lo hi tg' n' f
      simp only [Bool.and_eq_true] at hok
      have e1 := Nat.eq_of_beq_eq_true hok.1.1
      have e2 := Nat.eq_of_beq_eq_true hok.1.2
      subst e1 e2
      have e : v_S0 a = f := by unfold v_S0; rw [hc]
      simp only [v_cell, e]
    · rename_i l tg' n' f
      simp only [Bool.and_eq_true] at hok
      have e1 := Nat.eq_of_beq_eq_true hok.1.1
      have e2 := Nat.eq_of_beq_eq_true hok.1.2
      subst e1 e2
      have e : v_R0 a = f := by unfold v_R0; rw [hc]
      simp only [v_cell, e]
    · rename_i ci ts ci' fs
      simp only [Bool.and_eq_true] at hok
      have e1 := Nat.eq_of_beq_eq_true hok.1.1
      have e2 := Nat.eq_of_beq_eq_true hok.1.2
      subst e1
      simp only [v_cell]
      refine congrArg (fun l => (Sum.inr (ci, l) : g_Ce)) ?_
      apply List.ext_getElem?
      intro j
      rw [List.getElem?_mapIdx]
      by_cases hj : j < ts.length
      · have hf := List.all_eq_true.mp hok.2 j (List.mem_range.mpr hj)
        have e3 : ts[j]? = some ts[j] := List.getElem?_eq_getElem hj
        have e4 : fs[j]? = some fs[j] := List.getElem?_eq_getElem (by omega)
        have eS : v_S0 a j = (match fs[j]? with
          | some (.int v) => v
          | _ => 0) := by unfold v_S0; rw [hc]
        have eR : v_R0 a j = (match fs[j]? with
          | some (.ref r) => some r
          | _ => none) := by unfold v_R0; rw [hc]
        rw [e3] at hf ⊢
        rw [e4] at hf eS eR ⊢
        simp only [Option.map_some]
        refine congrArg some ?_
        generalize fs[j] = v at hf eS eR
        generalize ts[j] = tt at hf
        unfold v_okf at hf
        unfold v_fv
        split at hf
        · rename_i b x h7 h8
          cases h7
          cases h8
          simp only [eS]
        · rename_i kk r h7 h8
          cases h7
          cases h8
          rw [Nat.eq_of_beq_eq_true hf]
        · rename_i l r h7 h8
          cases h7
          cases h8
          simp only [eR, va_rf]
        · cases hf
      · rw [List.getElem?_eq_none (by omega), List.getElem?_eq_none (by omega)]
        rfl
    · cases hok
  · rw [if_neg ha, List.getElem?_eq_none (by omega)]
theorem v_S0_Tb : v_Tb v_ty v_S0 v_R0 := by
  intro a t ht
  obtain ⟨t', c, ht', hc, hok⟩ := v_okS_cell (v_ty_lt a t ht)
  have : t = t' := Option.some.inj (ht.symm.trans ht')
  subst this
  unfold v_okc at hok
  split at hok
  · rename_i tg n lo hi tg' n' f
    simp only [Bool.and_eq_true] at hok
    have e : v_S0 a = f := by unfold v_S0; rw [hc]
    intro j hj
    have h := List.all_eq_true.mp hok.2 j (List.mem_range.mpr hj)
    rw [Bool.and_eq_true, q_ile_ok, q_ile_ok] at h
    rw [e]
    exact h
  · rename_i l tg' n' f
    simp only [Bool.and_eq_true] at hok
    have e : v_R0 a = f := by unfold v_R0; rw [hc]
    intro j r hj
    have h := List.all_eq_true.mp hok.2 j (List.mem_range.mpr (List.getElem?_eq_some_iff.mp hj).1)
    rw [decide_eq_true_eq] at h
    rw [e, h, hj]
  · rename_i ci ts ci' fs
    simp only [Bool.and_eq_true] at hok
    intro j ft hj
    have hjl := (List.getElem?_eq_some_iff.mp hj).1
    have hf := List.all_eq_true.mp hok.2 j (List.mem_range.mpr hjl)
    have eS : v_S0 a j = (match fs[j]? with
      | some (.int v) => v
      | _ => 0) := by unfold v_S0; rw [hc]
    have eR : v_R0 a j = (match fs[j]? with
      | some (.ref r) => some r
      | _ => none) := by unfold v_R0; rw [hc]
    rw [hj] at hf
    unfold v_okf at hf
    unfold v_TbF
    split at hf
    · rename_i b x h7 h8
      cases h7
      rw [h8] at eS
      rw [Bool.and_eq_true, q_ile_ok, q_ile_ok] at hf
      simp only [eS]
      exact hf
    · rename_i kk r h7 h8
      cases h7
      trivial
    · rename_i l r h7 h8
      cases h7
      rw [h8] at eR
      exact ⟨r, by simpa using hf, eR⟩
    · cases hf
  · cases hok
theorem v_S0_Op : v_Op v_S0 := by
  have h := v_s0_ok
  rw [Bool.and_eq_true, Bool.and_eq_true, q_ieq_ok, q_ieq_ok] at h
  exact ⟨fun k hk => by omega, fun k hk => by omega⟩
theorem v_mk_len (S : v_Sf) (R : v_Rf) : (v_mk v_ty S R).length = 173 := by simp [v_mk, v_N]
theorem v_mk_sl (S : v_Sf) (R : v_Rf) : g_sl (v_mk v_ty S R) = g_sl (v_mk v_ty (fun _ _ => 0) (fun _ _ => none)) := by
  unfold g_sl v_mk
  rw [List.map_map, List.map_map]
  refine congrArg List.sum ?_
  apply List.map_congr_left
  intro a _
  show g_sz (v_cell S R a (v_ty a)) = g_sz (v_cell (fun _ _ => 0) (fun _ _ => none) a (v_ty a))
  unfold v_cell
  split
  · rfl
  · rfl
  · simp [g_sz]
  · rfl
set_option maxRecDepth 100000 in
theorem v_mk_sl0 : Nat.ble (g_sl (v_mk v_ty (fun _ _ => 0) (fun _ _ => none))) 7302250 = true := by decide +kernel
end Prt41
