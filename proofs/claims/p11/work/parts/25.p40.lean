section Prt40
/-! all rows hold -/
theorem v_rwT_len : ∀ i : Fin v_rwT.length, 16 * i.val + v_rwT[i].length ≤ 301 := by decide +kernel
theorem v_rw_lt {x : Nat} {w : v_Rw} (h : w ∈ v_rw x) : x < 301 := by
  unfold v_rw at h
  split at h
  · rename_i r hr
    rw [q_nth_eq] at hr
    split at h
    · rename_i l hl
      rw [q_nth_eq] at hl
      have h1 := (List.getElem?_eq_some_iff.mp hr).1
      have h2 := (List.getElem?_eq_some_iff.mp hl).1
      have h3 := v_rwT_len ⟨x / 16, h1⟩
      have e : r = v_rwT[x / 16] := by
        rw [List.getElem?_eq_getElem h1] at hr
        exact (Option.some.inj hr).symm
      rw [e] at h2
      dsimp only at h3
      have h4 : v_rwT[(⟨x / 16, h1⟩ : Fin v_rwT.length)] = v_rwT[x / 16] := rfl
      rw [h4] at h3
      omega
    · cases h
  · cases h
set_option maxRecDepth 20000 in
set_option maxHeartbeats 8000000 in
theorem v_rows_ok {L : Nat} {xs : Nat → Int32} (x : Nat) (w : v_Rw) (hw : w ∈ v_rw x) (ih : ∀ x, ∀ w' ∈ v_rw x, w'.1 < w.1 → v_Met L xs v_ty v_Op x w') : v_Met L xs v_ty v_Op x w := by
  have hlt := v_rw_lt hw
  match x, hw, hlt with
  | 0, hw, _ => exact absurd (show w ∈ ([] : List v_Rw) from hw) (by simp)
  | 1, hw, _ => exact absurd (show w ∈ ([] : List v_Rw) from hw) (by simp)
  | 2, hw, _ =>
    have hw : w ∈ [rw_0, rw_1] := hw
    simp only [List.mem_cons, List.not_mem_nil, or_false] at hw
    rcases hw with rfl | rfl
    · exact v_chk_ok v_fz_ok (fun S0 R0 => v_sp_ok ih) ih ck_0
    · exact v_chk_ok v_fz_ok (fun S0 R0 => v_sp_ok ih) ih ck_1
  | 3, hw, _ =>
    have hw : w ∈ [rw_2, rw_3] := hw
    simp only [List.mem_cons, List.not_mem_nil, or_false] at hw
    rcases hw with rfl | rfl
    · exact v_chk_ok v_fz_ok (fun S0 R0 => v_sp_ok ih) ih ck_2
    · exact v_chk_ok v_fz_ok (fun S0 R0 => v_sp_ok ih) ih ck_3
  | 4, hw, _ =>
    have hw : w ∈ [rw_4, rw_5] := hw
    simp only [List.mem_cons, List.not_mem_nil, or_false] at hw
    rcases hw with rfl | rfl
    · exact v_chk_ok v_fz_ok (fun S0 R0 => v_sp_ok ih) ih ck_4
    · exact v_chk_ok v_fz_ok (fun S0 R0 => v_sp_ok ih) ih ck_5
  | 5, hw, _ =>
    have hw : w ∈ [rw_6, rw_7] := hw
    simp only [List.mem_cons, List.not_mem_nil, or_false] at hw
    rcases hw with rfl | rfl
    · exact v_chk_ok v_fz_ok (fun S0 R0 => v_sp_ok ih) ih ck_6
    · exact v_chk_ok v_fz_ok (fun S0 R0 => v_sp_ok ih) ih ck_7
  | 6, hw, _ =>
    have hw : w ∈ [rw_8, rw_9] := hw
    simp only [List.mem_cons, List.not_mem_nil, or_false] at hw
    rcases hw with rfl | rfl
    · exact v_chk_ok v_fz_ok (fun S0 R0 => v_sp_ok ih) ih ck_8
    · exact v_chk_ok v_fz_ok (fun S0 R0 => v_sp_ok ih) ih ck_9
  | 7, hw, _ =>
    have hw : w ∈ [rw_10, rw_11] := hw
    simp only [List.mem_cons, List.not_mem_nil, or_false] at hw
    rcases hw with rfl | rfl
    · exact v_chk_ok v_fz_ok (fun S0 R0 => v_sp_ok ih) ih ck_10
    · exact v_chk_ok v_fz_ok (fun S0 R0 => v_sp_ok ih) ih ck_11
  | 8, hw, _ =>
    have hw : w ∈ [rw_12, rw_13] := hw
    simp only [List.mem_cons, List.not_mem_nil, or_false] at hw
    rcases hw with rfl | rfl
    · exact v_chk_ok v_fz_ok (fun S0 R0 => v_sp_ok ih) ih ck_12
    · exact v_chk_ok v_fz_ok (fun S0 R0 => v_sp_ok ih) ih ck_13
  | 9, hw, _ =>
    have hw : w ∈ [rw_14, rw_15] := hw
    simp only [List.mem_cons, List.not_mem_nil, or_false] at hw
    rcases hw with rfl | rfl
    · exact v_chk_ok v_fz_ok (fun S0 R0 => v_sp_ok ih) ih ck_14
    · exact v_chk_ok v_fz_ok (fun S0 R0 => v_sp_ok ih) ih ck_15
  | 10, hw, _ => exact absurd (show w ∈ ([] : List v_Rw) from hw) (by simp)
  | 11, hw, _ =>
    have hw : w ∈ [rw_16, rw_17] := hw
    simp only [List.mem_cons, List.not_mem_nil, or_false] at hw
    rcases hw with rfl | rfl
    · exact v_chk_ok v_fz_ok (fun S0 R0 => v_sp_ok ih) ih ck_16
    · exact v_chk_ok v_fz_ok (fun S0 R0 => v_sp_ok ih) ih ck_17
  | 12, hw, _ => exact absurd (show w ∈ ([] : List v_Rw) from hw) (by simp)
  | 13, hw, _ => exact absurd (show w ∈ ([] : List v_Rw) from hw) (by simp)
  | 14, hw, _ => exact absurd (show w ∈ ([] : List v_Rw) from hw) (by simp)
  | 15, hw, _ => exact absurd (show w ∈ ([] : List v_Rw) from hw) (by simp)
  | 16, hw, _ => exact absurd (show w ∈ ([] : List v_Rw) from hw) (by simp)
  | 17, hw, _ => exact absurd (show w ∈ ([] : List v_Rw) from hw) (by simp)
  | 18, hw, _ => exact absurd (show w ∈ ([] : List v_Rw) from hw) (by simp)
  | 19, hw, _ =>
    have hw : w ∈ [rw_18, rw_19, rw_20] := hw
    simp only [List.mem_cons, List.not_mem_nil, or_false] at hw
    rcases hw with rfl | rfl | rfl
    · exact v_chk_ok v_fz_ok (fun S0 R0 => v_sp_ok ih) ih ck_18
    · exact v_chk_ok v_fz_ok (fun S0 R0 => v_sp_ok ih) ih ck_19
    · exact v_chk_ok v_fz_ok (fun S0 R0 => v_sp_ok ih) ih ck_20
  | 20, hw, _ =>
    have hw : w ∈ [rw_21] := hw
    simp only [List.mem_cons, List.not_mem_nil, or_false] at hw
    subst hw
    exact v_chk_ok v_fz_ok (fun S0 R0 => v_sp_ok ih) ih ck_21
  | 21, hw, _ =>
    have hw : w ∈ [rw_22] := hw
    simp only [List.mem_cons, List.not_mem_nil, or_false] at hw
    subst hw
    exact v_chk_ok v_fz_ok (fun S0 R0 => v_sp_ok ih) ih ck_22
  | 22, hw, _ => exact absurd (show w ∈ ([] : List v_Rw) from hw) (by simp)
  | 23, hw, _ =>
    have hw : w ∈ [rw_23] := hw
    simp only [List.mem_cons, List.not_mem_nil, or_false] at hw
    subst hw
    exact v_chk_ok v_fz_ok (fun S0 R0 => v_sp_ok ih) ih ck_23
  | 24, hw, _ =>
    have hw : w ∈ [rw_24] := hw
    simp only [List.mem_cons, List.not_mem_nil, or_false] at hw
    subst hw
    exact v_chk_ok v_fz_ok (fun S0 R0 => v_sp_ok ih) ih ck_24
  | 25, hw, _ =>
    have hw : w ∈ [rw_25] := hw
    simp only [List.mem_cons, List.not_mem_nil, or_false] at hw
    subst hw
    exact v_chk_ok v_fz_ok (fun S0 R0 => v_sp_ok ih) ih ck_25
  | 26, hw, _ =>
    have hw : w ∈ [rw_26] := hw
    simp only [List.mem_cons, List.not_mem_nil, or_false] at hw
    subst hw
    exact v_chk_ok v_fz_ok (fun S0 R0 => v_sp_ok ih) ih ck_26
  | 27, hw, _ =>
    have hw : w ∈ [rw_27] := hw
    simp only [List.mem_cons, List.not_mem_nil, or_false] at hw
    subst hw
    exact v_chk_ok v_fz_ok (fun S0 R0 => v_sp_ok ih) ih ck_27
  | 28, hw, _ => exact absurd (show w ∈ ([] : List v_Rw) from hw) (by simp)
  | 29, hw, _ =>
    have hw : w ∈ [rw_28] := hw
    simp only [List.mem_cons, List.not_mem_nil, or_false] at hw
    subst hw
    exact v_chk_ok v_fz_ok (fun S0 R0 => v_sp_ok ih) ih ck_28
  | 30, hw, _ => exact absurd (show w ∈ ([] : List v_Rw) from hw) (by simp)
  | 31, hw, _ => exact absurd (show w ∈ ([] : List v_Rw) from hw) (by simp)
  | 32, hw, _ => exact absurd (show w ∈ ([] : List v_Rw) from hw) (by simp)
  | 33, hw, _ => exact absurd (show w ∈ ([] : List v_Rw) from hw) (by simp)
  | 34, hw, _ => exact absurd (show w ∈ ([] : List v_Rw) from hw) (by simp)
  | 35, hw, _ => exact absurd (show w ∈ ([] : List v_Rw) from hw) (by simp)
  | 36, hw, _ => exact absurd (show w ∈ ([] : List v_Rw) from hw) (by simp)
  | 37, hw, _ => exact absurd (show w ∈ ([] : List v_Rw) from hw) (by simp)
  | 38, hw, _ => exact absurd (show w ∈ ([] : List v_Rw) from hw) (by simp)
  | 39, hw, _ =>
    have hw : w ∈ [rw_29, rw_30] := hw
    simp only [List.mem_cons, List.not_mem_nil, or_false] at hw
    rcases hw with rfl | rfl
    · exact v_chk_ok v_fz_ok (fun S0 R0 => v_sp_ok ih) ih ck_29
    · exact v_chk_ok v_fz_ok (fun S0 R0 => v_sp_ok ih) ih ck_30
  | 40, hw, _ =>
    have hw : w ∈ [rw_31, rw_32] := hw
    simp only [List.mem_cons, List.not_mem_nil, or_false] at hw
    rcases hw with rfl | rfl
    · exact v_chk_ok v_fz_ok (fun S0 R0 => v_sp_ok ih) ih ck_31
    · exact v_chk_ok v_fz_ok (fun S0 R0 => v_sp_ok ih) ih ck_32
  | 41, hw, _ => exact absurd (show w ∈ ([] : List v_Rw) from hw) (by simp)
  | 42, hw, _ =>
    have hw : w ∈ [rw_33, rw_34] := hw
    simp only [List.mem_cons, List.not_mem_nil, or_false] at hw
    rcases hw with rfl | rfl
    · exact v_chk_ok v_fz_ok (fun S0 R0 => v_sp_ok ih) ih ck_33
    · exact v_chk_ok v_fz_ok (fun S0 R0 => v_sp_ok ih) ih ck_34
  | 43, hw, _ =>
    have hw : w ∈ [rw_35] := hw
    simp only [List.mem_cons, List.not_mem_nil, or_false] at hw
    subst hw
    exact v_chk_ok v_fz_ok (fun S0 R0 => v_sp_ok ih) ih ck_35
  | 44, hw, _ =>
    have hw : w ∈ [rw_36] := hw
    simp only [List.mem_cons, List.not_mem_nil, or_false] at hw
    subst hw
    exact v_chk_ok v_fz_ok (fun S0 R0 => v_sp_ok ih) ih ck_36
  | 45, hw, _ => exact absurd (show w ∈ ([] : List v_Rw) from hw) (by simp)
  | 46, hw, _ =>
    have hw : w ∈ [rw_37] := hw
    simp only [List.mem_cons, List.not_mem_nil, or_false] at hw
    subst hw
    exact v_chk_ok v_fz_ok (fun S0 R0 => v_sp_ok ih) ih ck_37
  | 47, hw, _ =>
    have hw : w ∈ [rw_38] := hw
    simp only [List.mem_cons, List.not_mem_nil, or_false] at hw
    subst hw
    exact v_chk_ok v_fz_ok (fun S0 R0 => v_sp_ok ih) ih ck_38
  | 48, hw, _ => exact absurd (show w ∈ ([] : List v_Rw) from hw) (by simp)
  | 49, hw, _ =>
    have hw : w ∈ [rw_39] := hw
    simp only [List.mem_cons, List.not_mem_nil, or_false] at hw
    subst hw
    exact v_chk_ok v_fz_ok (fun S0 R0 => v_sp_ok ih) ih ck_39
  | 50, hw, _ => exact absurd (show w ∈ ([] : List v_Rw) from hw) (by simp)
  | 51, hw, _ =>
    have hw : w ∈ [rw_40, rw_41, rw_42] := hw
    simp only [List.mem_cons, List.not_mem_nil, or_false] at hw
    rcases hw with rfl | rfl | rfl
    · exact v_chk_ok v_fz_ok (fun S0 R0 => v_sp_ok ih) ih ck_40
    · exact v_chk_ok v_fz_ok (fun S0 R0 => v_sp_ok ih) ih ck_41
    · exact v_chk_ok v_fz_ok (fun S0 R0 => v_sp_ok ih) ih ck_42
  | 52, hw, _ =>
    have hw : w ∈ [rw_43] := hw
    simp only [List.mem_cons, List.not_mem_nil, or_false] at hw
    subst hw
    exact v_chk_ok v_fz_ok (fun S0 R0 => v_sp_ok ih) ih ck_43
  | 53, hw, _ =>
    have hw : w ∈ [rw_44, rw_45, rw_46, rw_47, rw_48, rw_49, rw_50, rw_51, rw_52] := hw
    simp only [List.mem_cons, List.not_mem_nil, or_false] at hw
    rcases hw with rfl | rfl | rfl | rfl | rfl | rfl | rfl | rfl | rfl
    · exact v_chk_ok v_fz_ok (fun S0 R0 => v_sp_ok ih) ih ck_44
    · exact v_chk_ok v_fz_ok (fun S0 R0 => v_sp_ok ih) ih ck_45
    · exact v_chk_ok v_fz_ok (fun S0 R0 => v_sp_ok ih) ih ck_46
    · exact v_chk_ok v_fz_ok (fun S0 R0 => v_sp_ok ih) ih ck_47
    · exact v_chk_ok v_fz_ok (fun S0 R0 => v_sp_ok ih) ih ck_48
    · exact v_chk_ok v_fz_ok (fun S0 R0 => v_sp_ok ih) ih ck_49
    · exact v_chk_ok v_fz_ok (fun S0 R0 => v_sp_ok ih) ih ck_50
    · exact v_chk_ok v_fz_ok (fun S0 R0 => v_sp_ok ih) ih ck_51
    · exact v_chk_ok v_fz_ok (fun S0 R0 => v_sp_ok ih) ih ck_52
  | 54, hw, _ =>
    have hw : w ∈ [rw_53, rw_54, rw_55, rw_56, rw_57, rw_58, rw_59, rw_60, rw_61] := hw
    simp only [List.mem_cons, List.not_mem_nil, or_false] at hw
    rcases hw with rfl | rfl | rfl | rfl | rfl | rfl | rfl | rfl | rfl
    · exact v_chk_ok v_fz_ok (fun S0 R0 => v_sp_ok ih) ih ck_53
    · exact v_chk_ok v_fz_ok (fun S0 R0 => v_sp_ok ih) ih ck_54
    · exact v_chk_ok v_fz_ok (fun S0 R0 => v_sp_ok ih) ih ck_55
    · exact v_chk_ok v_fz_ok (fun S0 R0 => v_sp_ok ih) ih ck_56
    · exact v_chk_ok v_fz_ok (fun S0 R0 => v_sp_ok ih) ih ck_57
    · exact v_chk_ok v_fz_ok (fun S0 R0 => v_sp_ok ih) ih ck_58
    · exact v_chk_ok v_fz_ok (fun S0 R0 => v_sp_ok ih) ih ck_59
    · exact v_chk_ok v_fz_ok (fun S0 R0 => v_sp_ok ih) ih ck_60
    · exact v_chk_ok v_fz_ok (fun S0 R0 => v_sp_ok ih) ih ck_61
  | 55, hw, _ => exact absurd (show w ∈ ([] : List v_Rw) from hw) (by simp)
  | 56, hw, _ =>
    have hw : w ∈ [rw_62] := hw
    simp only [List.mem_cons, List.not_mem_nil, or_false] at hw
    subst hw
    exact v_chk_ok v_fz_ok (fun S0 R0 => v_sp_ok ih) ih ck_62
  | 57, hw, _ =>
    have hw : w ∈ [rw_63] := hw
    simp only [List.mem_cons, List.not_mem_nil, or_false] at hw
    subst hw
    exact v_chk_ok v_fz_ok (fun S0 R0 => v_sp_ok ih) ih ck_63
  | 58, hw, _ =>
    have hw : w ∈ [rw_64] := hw
    simp only [List.mem_cons, List.not_mem_nil, or_false] at hw
    subst hw
    exact v_chk_ok v_fz_ok (fun S0 R0 => v_sp_ok ih) ih ck_64
  | 59, hw, _ => exact absurd (show w ∈ ([] : List v_Rw) from hw) (by simp)
  | 60, hw, _ =>
    have hw : w ∈ [rw_65] := hw
    simp only [List.mem_cons, List.not_mem_nil, or_false] at hw
    subst hw
    exact v_chk_ok v_fz_ok (fun S0 R0 => v_sp_ok ih) ih ck_65
  | 61, hw, _ =>
    have hw : w ∈ [rw_66] := hw
    simp only [List.mem_cons, List.not_mem_nil, or_false] at hw
    subst hw
    exact hr_X5_readTimetable ih
  | 62, hw, _ => exact absurd (show w ∈ ([] : List v_Rw) from hw) (by simp)
  | 63, hw, _ =>
    have hw : w ∈ [rw_67] := hw
    simp only [List.mem_cons, List.not_mem_nil, or_false] at hw
    subst hw
    exact v_chk_ok v_fz_ok (fun S0 R0 => v_sp_ok ih) ih ck_67
  | 64, hw, _ =>
    have hw : w ∈ [rw_68] := hw
    simp only [List.mem_cons, List.not_mem_nil, or_false] at hw
    subst hw
    exact v_chk_ok v_fz_ok (fun S0 R0 => v_sp_ok ih) ih ck_68
  | 65, hw, _ =>
    have hw : w ∈ [rw_69] := hw
    simp only [List.mem_cons, List.not_mem_nil, or_false] at hw
    subst hw
    exact v_chk_ok v_fz_ok (fun S0 R0 => v_sp_ok ih) ih ck_69
  | 66, hw, _ => exact absurd (show w ∈ ([] : List v_Rw) from hw) (by simp)
  | 67, hw, _ =>
    have hw : w ∈ [rw_70] := hw
    simp only [List.mem_cons, List.not_mem_nil, or_false] at hw
    subst hw
    exact v_chk_ok v_fz_ok (fun S0 R0 => v_sp_ok ih) ih ck_70
  | 68, hw, _ => exact absurd (show w ∈ ([] : List v_Rw) from hw) (by simp)
  | 69, hw, _ => exact absurd (show w ∈ ([] : List v_Rw) from hw) (by simp)
  | 70, hw, _ =>
    have hw : w ∈ [rw_71, rw_72, rw_73, rw_74, rw_75, rw_76, rw_77] := hw
    simp only [List.mem_cons, List.not_mem_nil, or_false] at hw
    rcases hw with rfl | rfl | rfl | rfl | rfl | rfl | rfl
    · exact v_chk_ok v_fz_ok (fun S0 R0 => v_sp_ok ih) ih ck_71
    · exact v_chk_ok v_fz_ok (fun S0 R0 => v_sp_ok ih) ih ck_72
    · exact v_chk_ok v_fz_ok (fun S0 R0 => v_sp_ok ih) ih ck_73
    · exact v_chk_ok v_fz_ok (fun S0 R0 => v_sp_ok ih) ih ck_74
    · exact v_chk_ok v_fz_ok (fun S0 R0 => v_sp_ok ih) ih ck_75
    · exact v_chk_ok v_fz_ok (fun S0 R0 => v_sp_ok ih) ih ck_76
    · exact v_chk_ok v_fz_ok (fun S0 R0 => v_sp_ok ih) ih ck_77
  | 71, hw, _ =>
    have hw : w ∈ [rw_78, rw_79, rw_80, rw_81, rw_82, rw_83] := hw
    simp only [List.mem_cons, List.not_mem_nil, or_false] at hw
    rcases hw with rfl | rfl | rfl | rfl | rfl | rfl
    · exact v_chk_ok v_fz_ok (fun S0 R0 => v_sp_ok ih) ih ck_78
    · exact v_chk_ok v_fz_ok (fun S0 R0 => v_sp_ok ih) ih ck_79
    · exact v_chk_ok v_fz_ok (fun S0 R0 => v_sp_ok ih) ih ck_80
    · exact v_chk_ok v_fz_ok (fun S0 R0 => v_sp_ok ih) ih ck_81
    · exact v_chk_ok v_fz_ok (fun S0 R0 => v_sp_ok ih) ih ck_82
    · exact v_chk_ok v_fz_ok (fun S0 R0 => v_sp_ok ih) ih ck_83
  | 72, hw, _ =>
    have hw : w ∈ [rw_84, rw_85, rw_86, rw_87, rw_88, rw_89] := hw
    simp only [List.mem_cons, List.not_mem_nil, or_false] at hw
    rcases hw with rfl | rfl | rfl | rfl | rfl | rfl
    · exact v_chk_ok v_fz_ok (fun S0 R0 => v_sp_ok ih) ih ck_84
    · exact v_chk_ok v_fz_ok (fun S0 R0 => v_sp_ok ih) ih ck_85
    · exact v_chk_ok v_fz_ok (fun S0 R0 => v_sp_ok ih) ih ck_86
    · exact v_chk_ok v_fz_ok (fun S0 R0 => v_sp_ok ih) ih ck_87
    · exact v_chk_ok v_fz_ok (fun S0 R0 => v_sp_ok ih) ih ck_88
    · exact v_chk_ok v_fz_ok (fun S0 R0 => v_sp_ok ih) ih ck_89
  | 73, hw, _ =>
    have hw : w ∈ [rw_90, rw_91, rw_92, rw_93, rw_94, rw_95] := hw
    simp only [List.mem_cons, List.not_mem_nil, or_false] at hw
    rcases hw with rfl | rfl | rfl | rfl | rfl | rfl
    · exact v_chk_ok v_fz_ok (fun S0 R0 => v_sp_ok ih) ih ck_90
    · exact v_chk_ok v_fz_ok (fun S0 R0 => v_sp_ok ih) ih ck_91
    · exact v_chk_ok v_fz_ok (fun S0 R0 => v_sp_ok ih) ih ck_92
    · exact v_chk_ok v_fz_ok (fun S0 R0 => v_sp_ok ih) ih ck_93
    · exact v_chk_ok v_fz_ok (fun S0 R0 => v_sp_ok ih) ih ck_94
    · exact v_chk_ok v_fz_ok (fun S0 R0 => v_sp_ok ih) ih ck_95
  | 74, hw, _ =>
    have hw : w ∈ [rw_96, rw_97, rw_98, rw_99, rw_100, rw_101, rw_102] := hw
    simp only [List.mem_cons, List.not_mem_nil, or_false] at hw
    rcases hw with rfl | rfl | rfl | rfl | rfl | rfl | rfl
    · exact v_chk_ok v_fz_ok (fun S0 R0 => v_sp_ok ih) ih ck_96
    · exact v_chk_ok v_fz_ok (fun S0 R0 => v_sp_ok ih) ih ck_97
    · exact v_chk_ok v_fz_ok (fun S0 R0 => v_sp_ok ih) ih ck_98
    · exact v_chk_ok v_fz_ok (fun S0 R0 => v_sp_ok ih) ih ck_99
    · exact v_chk_ok v_fz_ok (fun S0 R0 => v_sp_ok ih) ih ck_100
    · exact v_chk_ok v_fz_ok (fun S0 R0 => v_sp_ok ih) ih ck_101
    · exact v_chk_ok v_fz_ok (fun S0 R0 => v_sp_ok ih) ih ck_102
  | 75, hw, _ =>
    have hw : w ∈ [rw_103, rw_104, rw_105, rw_106, rw_107, rw_108, rw_109] := hw
    simp only [List.mem_cons, List.not_mem_nil, or_false] at hw
    rcases hw with rfl | rfl | rfl | rfl | rfl | rfl | rfl
    · exact v_chk_ok v_fz_ok (fun S0 R0 => v_sp_ok ih) ih ck_103
    · exact v_chk_ok v_fz_ok (fun S0 R0 => v_sp_ok ih) ih ck_104
    · exact v_chk_ok v_fz_ok (fun S0 R0 => v_sp_ok ih) ih ck_105
    · exact v_chk_ok v_fz_ok (fun S0 R0 => v_sp_ok ih) ih ck_106
    · exact v_chk_ok v_fz_ok (fun S0 R0 => v_sp_ok ih) ih ck_107
    · exact v_chk_ok v_fz_ok (fun S0 R0 => v_sp_ok ih) ih ck_108
    · exact v_chk_ok v_fz_ok (fun S0 R0 => v_sp_ok ih) ih ck_109
  | 76, hw, _ =>
    have hw : w ∈ [rw_110, rw_111, rw_112, rw_113, rw_114, rw_115, rw_116] := hw
    simp only [List.mem_cons, List.not_mem_nil, or_false] at hw
    rcases hw with rfl | rfl | rfl | rfl | rfl | rfl | rfl
    · exact v_chk_ok v_fz_ok (fun S0 R0 => v_sp_ok ih) ih ck_110
    · exact v_chk_ok v_fz_ok (fun S0 R0 => v_sp_ok ih) ih ck_111
    · exact v_chk_ok v_fz_ok (fun S0 R0 => v_sp_ok ih) ih ck_112
    · exact v_chk_ok v_fz_ok (fun S0 R0 => v_sp_ok ih) ih ck_113
    · exact v_chk_ok v_fz_ok (fun S0 R0 => v_sp_ok ih) ih ck_114
    · exact v_chk_ok v_fz_ok (fun S0 R0 => v_sp_ok ih) ih ck_115
    · exact v_chk_ok v_fz_ok (fun S0 R0 => v_sp_ok ih) ih ck_116
  | 77, hw, _ =>
    have hw : w ∈ [rw_117] := hw
    simp only [List.mem_cons, List.not_mem_nil, or_false] at hw
    subst hw
    exact v_chk_ok v_fz_ok (fun S0 R0 => v_sp_ok ih) ih ck_117
  | 78, hw, _ => exact absurd (show w ∈ ([] : List v_Rw) from hw) (by simp)
  | 79, hw, _ => exact absurd (show w ∈ ([] : List v_Rw) from hw) (by simp)
  | 80, hw, _ => exact absurd (show w ∈ ([] : List v_Rw) from hw) (by simp)
  | 81, hw, _ => exact absurd (show w ∈ ([] : List v_Rw) from hw) (by simp)
  | 82, hw, _ => exact absurd (show w ∈ ([] : List v_Rw) from hw) (by simp)
  | 83, hw, _ => exact absurd (show w ∈ ([] : List v_Rw) from hw) (by simp)
  | 84, hw, _ =>
    have hw : w ∈ [rw_118] := hw
    simp only [List.mem_cons, List.not_mem_nil, or_false] at hw
    subst hw
    exact v_chk_ok v_fz_ok (fun S0 R0 => v_sp_ok ih) ih ck_118
  | 85, hw, _ =>
    have hw : w ∈ [rw_119] := hw
    simp only [List.mem_cons, List.not_mem_nil, or_false] at hw
    subst hw
    exact v_chk_ok v_fz_ok (fun S0 R0 => v_sp_ok ih) ih ck_119
  | 86, hw, _ =>
    have hw : w ∈ [rw_120] := hw
    simp only [List.mem_cons, List.not_mem_nil, or_false] at hw
    subst hw
    exact v_chk_ok v_fz_ok (fun S0 R0 => v_sp_ok ih) ih ck_120
  | 87, hw, _ => exact absurd (show w ∈ ([] : List v_Rw) from hw) (by simp)
  | 88, hw, _ => exact absurd (show w ∈ ([] : List v_Rw) from hw) (by simp)
  | 89, hw, _ => exact absurd (show w ∈ ([] : List v_Rw) from hw) (by simp)
  | 90, hw, _ => exact absurd (show w ∈ ([] : List v_Rw) from hw) (by simp)
  | 91, hw, _ =>
    have hw : w ∈ [rw_121, rw_122] := hw
    simp only [List.mem_cons, List.not_mem_nil, or_false] at hw
    rcases hw with rfl | rfl
    · exact v_chk_ok v_fz_ok (fun S0 R0 => v_sp_ok ih) ih ck_121
    · exact v_chk_ok v_fz_ok (fun S0 R0 => v_sp_ok ih) ih ck_122
  | 92, hw, _ => exact absurd (show w ∈ ([] : List v_Rw) from hw) (by simp)
  | 93, hw, _ =>
    have hw : w ∈ [rw_123, rw_124, rw_125] := hw
    simp only [List.mem_cons, List.not_mem_nil, or_false] at hw
    rcases hw with rfl | rfl | rfl
    · exact v_chk_ok v_fz_ok (fun S0 R0 => v_sp_ok ih) ih ck_123
    · exact v_chk_ok v_fz_ok (fun S0 R0 => v_sp_ok ih) ih ck_124
    · exact v_chk_ok v_fz_ok (fun S0 R0 => v_sp_ok ih) ih ck_125
  | 94, hw, _ => exact absurd (show w ∈ ([] : List v_Rw) from hw) (by simp)
  | 95, hw, _ => exact absurd (show w ∈ ([] : List v_Rw) from hw) (by simp)
  | 96, hw, _ =>
    have hw : w ∈ [rw_126] := hw
    simp only [List.mem_cons, List.not_mem_nil, or_false] at hw
    subst hw
    exact v_chk_ok v_fz_ok (fun S0 R0 => v_sp_ok ih) ih ck_126
  | 97, hw, _ =>
    have hw : w ∈ [rw_127] := hw
    simp only [List.mem_cons, List.not_mem_nil, or_false] at hw
    subst hw
    exact v_chk_ok v_fz_ok (fun S0 R0 => v_sp_ok ih) ih ck_127
  | 98, hw, _ => exact absurd (show w ∈ ([] : List v_Rw) from hw) (by simp)
  | 99, hw, _ => exact absurd (show w ∈ ([] : List v_Rw) from hw) (by simp)
  | 100, hw, _ => exact absurd (show w ∈ ([] : List v_Rw) from hw) (by simp)
  | 101, hw, _ => exact absurd (show w ∈ ([] : List v_Rw) from hw) (by simp)
  | 102, hw, _ => exact absurd (show w ∈ ([] : List v_Rw) from hw) (by simp)
  | 103, hw, _ => exact absurd (show w ∈ ([] : List v_Rw) from hw) (by simp)
  | 104, hw, _ =>
    have hw : w ∈ [rw_128] := hw
    simp only [List.mem_cons, List.not_mem_nil, or_false] at hw
    subst hw
    exact v_chk_ok v_fz_ok (fun S0 R0 => v_sp_ok ih) ih ck_128
  | 105, hw, _ => exact absurd (show w ∈ ([] : List v_Rw) from hw) (by simp)
  | 106, hw, _ =>
    have hw : w ∈ [rw_129, rw_130, rw_131, rw_132, rw_133, rw_134, rw_135] := hw
    simp only [List.mem_cons, List.not_mem_nil, or_false] at hw
    rcases hw with rfl | rfl | rfl | rfl | rfl | rfl | rfl
    · exact v_chk_ok v_fz_ok (fun S0 R0 => v_sp_ok ih) ih ck_129
    · exact v_chk_ok v_fz_ok (fun S0 R0 => v_sp_ok ih) ih ck_130
    · exact v_chk_ok v_fz_ok (fun S0 R0 => v_sp_ok ih) ih ck_131
    · exact v_chk_ok v_fz_ok (fun S0 R0 => v_sp_ok ih) ih ck_132
    · exact v_chk_ok v_fz_ok (fun S0 R0 => v_sp_ok ih) ih ck_133
    · exact v_chk_ok v_fz_ok (fun S0 R0 => v_sp_ok ih) ih ck_134
    · exact v_chk_ok v_fz_ok (fun S0 R0 => v_sp_ok ih) ih ck_135
  | 107, hw, _ => exact absurd (show w ∈ ([] : List v_Rw) from hw) (by simp)
  | 108, hw, _ =>
    have hw : w ∈ [rw_136] := hw
    simp only [List.mem_cons, List.not_mem_nil, or_false] at hw
    subst hw
    exact v_chk_ok v_fz_ok (fun S0 R0 => v_sp_ok ih) ih ck_136
  | 109, hw, _ =>
    have hw : w ∈ [rw_137] := hw
    simp only [List.mem_cons, List.not_mem_nil, or_false] at hw
    subst hw
    exact v_chk_ok v_fz_ok (fun S0 R0 => v_sp_ok ih) ih ck_137
  | 110, hw, _ => exact absurd (show w ∈ ([] : List v_Rw) from hw) (by simp)
  | 111, hw, _ =>
    have hw : w ∈ [rw_138] := hw
    simp only [List.mem_cons, List.not_mem_nil, or_false] at hw
    subst hw
    exact v_chk_ok v_fz_ok (fun S0 R0 => v_sp_ok ih) ih ck_138
  | 112, hw, _ =>
    have hw : w ∈ [rw_139] := hw
    simp only [List.mem_cons, List.not_mem_nil, or_false] at hw
    subst hw
    exact v_chk_ok v_fz_ok (fun S0 R0 => v_sp_ok ih) ih ck_139
  | 113, hw, _ =>
    have hw : w ∈ [rw_140] := hw
    simp only [List.mem_cons, List.not_mem_nil, or_false] at hw
    subst hw
    exact v_chk_ok v_fz_ok (fun S0 R0 => v_sp_ok ih) ih ck_140
  | 114, hw, _ =>
    have hw : w ∈ [rw_141] := hw
    simp only [List.mem_cons, List.not_mem_nil, or_false] at hw
    subst hw
    exact v_chk_ok v_fz_ok (fun S0 R0 => v_sp_ok ih) ih ck_141
  | 115, hw, _ =>
    have hw : w ∈ [rw_142] := hw
    simp only [List.mem_cons, List.not_mem_nil, or_false] at hw
    subst hw
    exact v_chk_ok v_fz_ok (fun S0 R0 => v_sp_ok ih) ih ck_142
  | 116, hw, _ =>
    have hw : w ∈ [rw_143] := hw
    simp only [List.mem_cons, List.not_mem_nil, or_false] at hw
    subst hw
    exact v_chk_ok v_fz_ok (fun S0 R0 => v_sp_ok ih) ih ck_143
  | 117, hw, _ =>
    have hw : w ∈ [rw_144] := hw
    simp only [List.mem_cons, List.not_mem_nil, or_false] at hw
    subst hw
    exact v_chk_ok v_fz_ok (fun S0 R0 => v_sp_ok ih) ih ck_144
  | 118, hw, _ =>
    have hw : w ∈ [rw_145] := hw
    simp only [List.mem_cons, List.not_mem_nil, or_false] at hw
    subst hw
    exact v_chk_ok v_fz_ok (fun S0 R0 => v_sp_ok ih) ih ck_145
  | 119, hw, _ =>
    have hw : w ∈ [rw_146] := hw
    simp only [List.mem_cons, List.not_mem_nil, or_false] at hw
    subst hw
    exact v_chk_ok v_fz_ok (fun S0 R0 => v_sp_ok ih) ih ck_146
  | 120, hw, _ =>
    have hw : w ∈ [rw_147] := hw
    simp only [List.mem_cons, List.not_mem_nil, or_false] at hw
    subst hw
    exact v_chk_ok v_fz_ok (fun S0 R0 => v_sp_ok ih) ih ck_147
  | 121, hw, _ =>
    have hw : w ∈ [rw_148] := hw
    simp only [List.mem_cons, List.not_mem_nil, or_false] at hw
    subst hw
    exact v_chk_ok v_fz_ok (fun S0 R0 => v_sp_ok ih) ih ck_148
  | 122, hw, _ =>
    have hw : w ∈ [rw_149] := hw
    simp only [List.mem_cons, List.not_mem_nil, or_false] at hw
    subst hw
    exact v_chk_ok v_fz_ok (fun S0 R0 => v_sp_ok ih) ih ck_149
  | 123, hw, _ =>
    have hw : w ∈ [rw_150] := hw
    simp only [List.mem_cons, List.not_mem_nil, or_false] at hw
    subst hw
    exact v_chk_ok v_fz_ok (fun S0 R0 => v_sp_ok ih) ih ck_150
  | 124, hw, _ =>
    have hw : w ∈ [rw_151] := hw
    simp only [List.mem_cons, List.not_mem_nil, or_false] at hw
    subst hw
    exact v_chk_ok v_fz_ok (fun S0 R0 => v_sp_ok ih) ih ck_151
  | 125, hw, _ =>
    have hw : w ∈ [rw_152] := hw
    simp only [List.mem_cons, List.not_mem_nil, or_false] at hw
    subst hw
    exact v_chk_ok v_fz_ok (fun S0 R0 => v_sp_ok ih) ih ck_152
  | 126, hw, _ =>
    have hw : w ∈ [rw_153] := hw
    simp only [List.mem_cons, List.not_mem_nil, or_false] at hw
    subst hw
    exact v_chk_ok v_fz_ok (fun S0 R0 => v_sp_ok ih) ih ck_153
  | 127, hw, _ =>
    have hw : w ∈ [rw_154] := hw
    simp only [List.mem_cons, List.not_mem_nil, or_false] at hw
    subst hw
    exact v_chk_ok v_fz_ok (fun S0 R0 => v_sp_ok ih) ih ck_154
  | 128, hw, _ =>
    have hw : w ∈ [rw_155] := hw
    simp only [List.mem_cons, List.not_mem_nil, or_false] at hw
    subst hw
    exact v_chk_ok v_fz_ok (fun S0 R0 => v_sp_ok ih) ih ck_155
  | 129, hw, _ =>
    have hw : w ∈ [rw_156] := hw
    simp only [List.mem_cons, List.not_mem_nil, or_false] at hw
    subst hw
    exact v_chk_ok v_fz_ok (fun S0 R0 => v_sp_ok ih) ih ck_156
  | 130, hw, _ =>
    have hw : w ∈ [rw_157] := hw
    simp only [List.mem_cons, List.not_mem_nil, or_false] at hw
    subst hw
    exact v_chk_ok v_fz_ok (fun S0 R0 => v_sp_ok ih) ih ck_157
  | 131, hw, _ =>
    have hw : w ∈ [rw_158] := hw
    simp only [List.mem_cons, List.not_mem_nil, or_false] at hw
    subst hw
    exact v_chk_ok v_fz_ok (fun S0 R0 => v_sp_ok ih) ih ck_158
  | 132, hw, _ =>
    have hw : w ∈ [rw_159] := hw
    simp only [List.mem_cons, List.not_mem_nil, or_false] at hw
    subst hw
    exact v_chk_ok v_fz_ok (fun S0 R0 => v_sp_ok ih) ih ck_159
  | 133, hw, _ =>
    have hw : w ∈ [rw_160] := hw
    simp only [List.mem_cons, List.not_mem_nil, or_false] at hw
    subst hw
    exact v_chk_ok v_fz_ok (fun S0 R0 => v_sp_ok ih) ih ck_160
  | 134, hw, _ =>
    have hw : w ∈ [rw_161] := hw
    simp only [List.mem_cons, List.not_mem_nil, or_false] at hw
    subst hw
    exact v_chk_ok v_fz_ok (fun S0 R0 => v_sp_ok ih) ih ck_161
  | 135, hw, _ =>
    have hw : w ∈ [rw_162] := hw
    simp only [List.mem_cons, List.not_mem_nil, or_false] at hw
    subst hw
    exact v_chk_ok v_fz_ok (fun S0 R0 => v_sp_ok ih) ih ck_162
  | 136, hw, _ =>
    have hw : w ∈ [rw_163] := hw
    simp only [List.mem_cons, List.not_mem_nil, or_false] at hw
    subst hw
    exact v_chk_ok v_fz_ok (fun S0 R0 => v_sp_ok ih) ih ck_163
  | 137, hw, _ =>
    have hw : w ∈ [rw_164] := hw
    simp only [List.mem_cons, List.not_mem_nil, or_false] at hw
    subst hw
    exact v_chk_ok v_fz_ok (fun S0 R0 => v_sp_ok ih) ih ck_164
  | 138, hw, _ =>
    have hw : w ∈ [rw_165] := hw
    simp only [List.mem_cons, List.not_mem_nil, or_false] at hw
    subst hw
    exact v_chk_ok v_fz_ok (fun S0 R0 => v_sp_ok ih) ih ck_165
  | 139, hw, _ =>
    have hw : w ∈ [rw_166] := hw
    simp only [List.mem_cons, List.not_mem_nil, or_false] at hw
    subst hw
    exact v_chk_ok v_fz_ok (fun S0 R0 => v_sp_ok ih) ih ck_166
  | 140, hw, _ =>
    have hw : w ∈ [rw_167] := hw
    simp only [List.mem_cons, List.not_mem_nil, or_false] at hw
    subst hw
    exact v_chk_ok v_fz_ok (fun S0 R0 => v_sp_ok ih) ih ck_167
  | 141, hw, _ =>
    have hw : w ∈ [rw_168] := hw
    simp only [List.mem_cons, List.not_mem_nil, or_false] at hw
    subst hw
    exact v_chk_ok v_fz_ok (fun S0 R0 => v_sp_ok ih) ih ck_168
  | 142, hw, _ =>
    have hw : w ∈ [rw_169] := hw
    simp only [List.mem_cons, List.not_mem_nil, or_false] at hw
    subst hw
    exact v_chk_ok v_fz_ok (fun S0 R0 => v_sp_ok ih) ih ck_169
  | 143, hw, _ =>
    have hw : w ∈ [rw_170] := hw
    simp only [List.mem_cons, List.not_mem_nil, or_false] at hw
    subst hw
    exact v_chk_ok v_fz_ok (fun S0 R0 => v_sp_ok ih) ih ck_170
  | 144, hw, _ =>
    have hw : w ∈ [rw_171] := hw
    simp only [List.mem_cons, List.not_mem_nil, or_false] at hw
    subst hw
    exact v_chk_ok v_fz_ok (fun S0 R0 => v_sp_ok ih) ih ck_171
  | 145, hw, _ =>
    have hw : w ∈ [rw_172] := hw
    simp only [List.mem_cons, List.not_mem_nil, or_false] at hw
    subst hw
    exact v_chk_ok v_fz_ok (fun S0 R0 => v_sp_ok ih) ih ck_172
  | 146, hw, _ =>
    have hw : w ∈ [rw_173] := hw
    simp only [List.mem_cons, List.not_mem_nil, or_false] at hw
    subst hw
    exact v_chk_ok v_fz_ok (fun S0 R0 => v_sp_ok ih) ih ck_173
  | 147, hw, _ => exact absurd (show w ∈ ([] : List v_Rw) from hw) (by simp)
  | 148, hw, _ => exact absurd (show w ∈ ([] : List v_Rw) from hw) (by simp)
  | 149, hw, _ => exact absurd (show w ∈ ([] : List v_Rw) from hw) (by simp)
  | 150, hw, _ => exact absurd (show w ∈ ([] : List v_Rw) from hw) (by simp)
  | 151, hw, _ => exact absurd (show w ∈ ([] : List v_Rw) from hw) (by simp)
  | 152, hw, _ => exact absurd (show w ∈ ([] : List v_Rw) from hw) (by simp)
  | 153, hw, _ =>
    have hw : w ∈ [rw_174] := hw
    simp only [List.mem_cons, List.not_mem_nil, or_false] at hw
    subst hw
    exact v_chk_ok v_fz_ok (fun S0 R0 => v_sp_ok ih) ih ck_174
  | 154, hw, _ =>
    have hw : w ∈ [rw_175] := hw
    simp only [List.mem_cons, List.not_mem_nil, or_false] at hw
    subst hw
    exact v_chk_ok v_fz_ok (fun S0 R0 => v_sp_ok ih) ih ck_175
  | 155, hw, _ =>
    have hw : w ∈ [rw_176] := hw
    simp only [List.mem_cons, List.not_mem_nil, or_false] at hw
    subst hw
    exact v_chk_ok v_fz_ok (fun S0 R0 => v_sp_ok ih) ih ck_176
  | 156, hw, _ =>
    have hw : w ∈ [rw_177] := hw
    simp only [List.mem_cons, List.not_mem_nil, or_false] at hw
    subst hw
    exact v_chk_ok v_fz_ok (fun S0 R0 => v_sp_ok ih) ih ck_177
  | 157, hw, _ =>
    have hw : w ∈ [rw_178] := hw
    simp only [List.mem_cons, List.not_mem_nil, or_false] at hw
    subst hw
    exact v_chk_ok v_fz_ok (fun S0 R0 => v_sp_ok ih) ih ck_178
  | 158, hw, _ =>
    have hw : w ∈ [rw_179] := hw
    simp only [List.mem_cons, List.not_mem_nil, or_false] at hw
    subst hw
    exact v_chk_ok v_fz_ok (fun S0 R0 => v_sp_ok ih) ih ck_179
  | 159, hw, _ => exact absurd (show w ∈ ([] : List v_Rw) from hw) (by simp)
  | 160, hw, _ => exact absurd (show w ∈ ([] : List v_Rw) from hw) (by simp)
  | 161, hw, _ => exact absurd (show w ∈ ([] : List v_Rw) from hw) (by simp)
  | 162, hw, _ => exact absurd (show w ∈ ([] : List v_Rw) from hw) (by simp)
  | 163, hw, _ =>
    have hw : w ∈ [rw_180] := hw
    simp only [List.mem_cons, List.not_mem_nil, or_false] at hw
    subst hw
    exact v_chk_ok v_fz_ok (fun S0 R0 => v_sp_ok ih) ih ck_180
  | 164, hw, _ => exact absurd (show w ∈ ([] : List v_Rw) from hw) (by simp)
  | 165, hw, _ =>
    have hw : w ∈ [rw_181] := hw
    simp only [List.mem_cons, List.not_mem_nil, or_false] at hw
    subst hw
    exact v_chk_ok v_fz_ok (fun S0 R0 => v_sp_ok ih) ih ck_181
  | 166, hw, _ =>
    have hw : w ∈ [rw_182] := hw
    simp only [List.mem_cons, List.not_mem_nil, or_false] at hw
    subst hw
    exact v_chk_ok v_fz_ok (fun S0 R0 => v_sp_ok ih) ih ck_182
  | 167, hw, _ => exact absurd (show w ∈ ([] : List v_Rw) from hw) (by simp)
  | 168, hw, _ => exact absurd (show w ∈ ([] : List v_Rw) from hw) (by simp)
  | 169, hw, _ => exact absurd (show w ∈ ([] : List v_Rw) from hw) (by simp)
  | 170, hw, _ => exact absurd (show w ∈ ([] : List v_Rw) from hw) (by simp)
  | 171, hw, _ => exact absurd (show w ∈ ([] : List v_Rw) from hw) (by simp)
  | 172, hw, _ => exact absurd (show w ∈ ([] : List v_Rw) from hw) (by simp)
  | 173, hw, _ => exact absurd (show w ∈ ([] : List v_Rw) from hw) (by simp)
  | 174, hw, _ => exact absurd (show w ∈ ([] : List v_Rw) from hw) (by simp)
  | 175, hw, _ => exact absurd (show w ∈ ([] : List v_Rw) from hw) (by simp)
  | 176, hw, _ => exact absurd (show w ∈ ([] : List v_Rw) from hw) (by simp)
  | 177, hw, _ => exact absurd (show w ∈ ([] : List v_Rw) from hw) (by simp)
  | 178, hw, _ => exact absurd (show w ∈ ([] : List v_Rw) from hw) (by simp)
  | 179, hw, _ => exact absurd (show w ∈ ([] : List v_Rw) from hw) (by simp)
  | 180, hw, _ => exact absurd (show w ∈ ([] : List v_Rw) from hw) (by simp)
  | 181, hw, _ => exact absurd (show w ∈ ([] : List v_Rw) from hw) (by simp)
  | 182, hw, _ => exact absurd (show w ∈ ([] : List v_Rw) from hw) (by simp)
  | 183, hw, _ => exact absurd (show w ∈ ([] : List v_Rw) from hw) (by simp)
  | 184, hw, _ => exact absurd (show w ∈ ([] : List v_Rw) from hw) (by simp)
  | 185, hw, _ => exact absurd (show w ∈ ([] : List v_Rw) from hw) (by simp)
  | 186, hw, _ => exact absurd (show w ∈ ([] : List v_Rw) from hw) (by simp)
  | 187, hw, _ => exact absurd (show w ∈ ([] : List v_Rw) from hw) (by simp)
  | 188, hw, _ => exact absurd (show w ∈ ([] : List v_Rw) from hw) (by simp)
  | 189, hw, _ => exact absurd (show w ∈ ([] : List v_Rw) from hw) (by simp)
  | 190, hw, _ => exact absurd (show w ∈ ([] : List v_Rw) from hw) (by simp)
  | 191, hw, _ => exact absurd (show w ∈ ([] : List v_Rw) from hw) (by simp)
  | 192, hw, _ => exact absurd (show w ∈ ([] : List v_Rw) from hw) (by simp)
  | 193, hw, _ =>
    have hw : w ∈ [rw_183] := hw
    simp only [List.mem_cons, List.not_mem_nil, or_false] at hw
    subst hw
    exact hr_X12_law ih
  | 194, hw, _ =>
    have hw : w ∈ [rw_184] := hw
    simp only [List.mem_cons, List.not_mem_nil, or_false] at hw
    subst hw
    exact hr_X12_rules ih
  | 195, hw, _ =>
    have hw : w ∈ [rw_185] := hw
    simp only [List.mem_cons, List.not_mem_nil, or_false] at hw
    subst hw
    exact v_chk_ok v_fz_ok (fun S0 R0 => v_sp_ok ih) ih ck_185
  | 196, hw, _ =>
    have hw : w ∈ [rw_186] := hw
    simp only [List.mem_cons, List.not_mem_nil, or_false] at hw
    subst hw
    exact v_chk_ok v_fz_ok (fun S0 R0 => v_sp_ok ih) ih ck_186
  | 197, hw, _ =>
    have hw : w ∈ [rw_187] := hw
    simp only [List.mem_cons, List.not_mem_nil, or_false] at hw
    subst hw
    exact v_chk_ok v_fz_ok (fun S0 R0 => v_sp_ok ih) ih ck_187
  | 198, hw, _ => exact absurd (show w ∈ ([] : List v_Rw) from hw) (by simp)
  | 199, hw, _ => exact absurd (show w ∈ ([] : List v_Rw) from hw) (by simp)
  | 200, hw, _ =>
    have hw : w ∈ [rw_188] := hw
    simp only [List.mem_cons, List.not_mem_nil, or_false] at hw
    subst hw
    exact v_chk_ok v_fz_ok (fun S0 R0 => v_sp_ok ih) ih ck_188
  | 201, hw, _ =>
    have hw : w ∈ [rw_189] := hw
    simp only [List.mem_cons, List.not_mem_nil, or_false] at hw
    subst hw
    exact v_chk_ok v_fz_ok (fun S0 R0 => v_sp_ok ih) ih ck_189
  | 202, hw, _ => exact absurd (show w ∈ ([] : List v_Rw) from hw) (by simp)
  | 203, hw, _ =>
    have hw : w ∈ [rw_190] := hw
    simp only [List.mem_cons, List.not_mem_nil, or_false] at hw
    subst hw
    exact v_chk_ok v_fz_ok (fun S0 R0 => v_sp_ok ih) ih ck_190
  | 204, hw, _ =>
    have hw : w ∈ [rw_191] := hw
    simp only [List.mem_cons, List.not_mem_nil, or_false] at hw
    subst hw
    exact v_chk_ok v_fz_ok (fun S0 R0 => v_sp_ok ih) ih ck_191
  | 205, hw, _ => exact absurd (show w ∈ ([] : List v_Rw) from hw) (by simp)
  | 206, hw, _ => exact absurd (show w ∈ ([] : List v_Rw) from hw) (by simp)
  | 207, hw, _ =>
    have hw : w ∈ [rw_192] := hw
    simp only [List.mem_cons, List.not_mem_nil, or_false] at hw
    subst hw
    exact v_chk_ok v_fz_ok (fun S0 R0 => v_sp_ok ih) ih ck_192
  | 208, hw, _ => exact absurd (show w ∈ ([] : List v_Rw) from hw) (by simp)
  | 209, hw, _ => exact absurd (show w ∈ ([] : List v_Rw) from hw) (by simp)
  | 210, hw, _ => exact absurd (show w ∈ ([] : List v_Rw) from hw) (by simp)
  | 211, hw, _ => exact absurd (show w ∈ ([] : List v_Rw) from hw) (by simp)
  | 212, hw, _ => exact absurd (show w ∈ ([] : List v_Rw) from hw) (by simp)
  | 213, hw, _ =>
    have hw : w ∈ [rw_193] := hw
    simp only [List.mem_cons, List.not_mem_nil, or_false] at hw
    subst hw
    exact v_chk_ok v_fz_ok (fun S0 R0 => v_sp_ok ih) ih ck_193
  | 214, hw, _ =>
    have hw : w ∈ [rw_194] := hw
    simp only [List.mem_cons, List.not_mem_nil, or_false] at hw
    subst hw
    exact v_chk_ok v_fz_ok (fun S0 R0 => v_sp_ok ih) ih ck_194
  | 215, hw, _ =>
    have hw : w ∈ [rw_195] := hw
    simp only [List.mem_cons, List.not_mem_nil, or_false] at hw
    subst hw
    exact v_chk_ok v_fz_ok (fun S0 R0 => v_sp_ok ih) ih ck_195
  | 216, hw, _ =>
    have hw : w ∈ [rw_196] := hw
    simp only [List.mem_cons, List.not_mem_nil, or_false] at hw
    subst hw
    exact v_chk_ok v_fz_ok (fun S0 R0 => v_sp_ok ih) ih ck_196
  | 217, hw, _ =>
    have hw : w ∈ [rw_197] := hw
    simp only [List.mem_cons, List.not_mem_nil, or_false] at hw
    subst hw
    exact v_chk_ok v_fz_ok (fun S0 R0 => v_sp_ok ih) ih ck_197
  | 218, hw, _ =>
    have hw : w ∈ [rw_198] := hw
    simp only [List.mem_cons, List.not_mem_nil, or_false] at hw
    subst hw
    exact v_chk_ok v_fz_ok (fun S0 R0 => v_sp_ok ih) ih ck_198
  | 219, hw, _ =>
    have hw : w ∈ [rw_199] := hw
    simp only [List.mem_cons, List.not_mem_nil, or_false] at hw
    subst hw
    exact v_chk_ok v_fz_ok (fun S0 R0 => v_sp_ok ih) ih ck_199
  | 220, hw, _ =>
    have hw : w ∈ [rw_200] := hw
    simp only [List.mem_cons, List.not_mem_nil, or_false] at hw
    subst hw
    exact v_chk_ok v_fz_ok (fun S0 R0 => v_sp_ok ih) ih ck_200
  | 221, hw, _ =>
    have hw : w ∈ [rw_201] := hw
    simp only [List.mem_cons, List.not_mem_nil, or_false] at hw
    subst hw
    exact v_chk_ok v_fz_ok (fun S0 R0 => v_sp_ok ih) ih ck_201
  | 222, hw, _ => exact absurd (show w ∈ ([] : List v_Rw) from hw) (by simp)
  | 223, hw, _ => exact absurd (show w ∈ ([] : List v_Rw) from hw) (by simp)
  | 224, hw, _ => exact absurd (show w ∈ ([] : List v_Rw) from hw) (by simp)
  | 225, hw, _ =>
    have hw : w ∈ [rw_202] := hw
    simp only [List.mem_cons, List.not_mem_nil, or_false] at hw
    subst hw
    exact hr_X12_timetable ih
  | 226, hw, _ => exact absurd (show w ∈ ([] : List v_Rw) from hw) (by simp)
  | 227, hw, _ => exact absurd (show w ∈ ([] : List v_Rw) from hw) (by simp)
  | 228, hw, _ =>
    have hw : w ∈ [rw_203] := hw
    simp only [List.mem_cons, List.not_mem_nil, or_false] at hw
    subst hw
    exact v_chk_ok v_fz_ok (fun S0 R0 => v_sp_ok ih) ih ck_203
  | 229, hw, _ => exact absurd (show w ∈ ([] : List v_Rw) from hw) (by simp)
  | 230, hw, _ =>
    have hw : w ∈ [rw_204] := hw
    simp only [List.mem_cons, List.not_mem_nil, or_false] at hw
    subst hw
    exact v_chk_ok v_fz_ok (fun S0 R0 => v_sp_ok ih) ih ck_204
  | 231, hw, _ =>
    have hw : w ∈ [rw_205] := hw
    simp only [List.mem_cons, List.not_mem_nil, or_false] at hw
    subst hw
    exact v_chk_ok v_fz_ok (fun S0 R0 => v_sp_ok ih) ih ck_205
  | 232, hw, _ =>
    have hw : w ∈ [rw_206] := hw
    simp only [List.mem_cons, List.not_mem_nil, or_false] at hw
    subst hw
    exact v_chk_ok v_fz_ok (fun S0 R0 => v_sp_ok ih) ih ck_206
  | 233, hw, _ =>
    have hw : w ∈ [rw_207] := hw
    simp only [List.mem_cons, List.not_mem_nil, or_false] at hw
    subst hw
    exact v_chk_ok v_fz_ok (fun S0 R0 => v_sp_ok ih) ih ck_207
  | 234, hw, _ =>
    have hw : w ∈ [rw_208] := hw
    simp only [List.mem_cons, List.not_mem_nil, or_false] at hw
    subst hw
    exact v_chk_ok v_fz_ok (fun S0 R0 => v_sp_ok ih) ih ck_208
  | 235, hw, _ =>
    have hw : w ∈ [rw_209] := hw
    simp only [List.mem_cons, List.not_mem_nil, or_false] at hw
    subst hw
    exact v_chk_ok v_fz_ok (fun S0 R0 => v_sp_ok ih) ih ck_209
  | 236, hw, _ =>
    have hw : w ∈ [rw_210] := hw
    simp only [List.mem_cons, List.not_mem_nil, or_false] at hw
    subst hw
    exact v_chk_ok v_fz_ok (fun S0 R0 => v_sp_ok ih) ih ck_210
  | 237, hw, _ =>
    have hw : w ∈ [rw_211] := hw
    simp only [List.mem_cons, List.not_mem_nil, or_false] at hw
    subst hw
    exact v_chk_ok v_fz_ok (fun S0 R0 => v_sp_ok ih) ih ck_211
  | 238, hw, _ =>
    have hw : w ∈ [rw_212] := hw
    simp only [List.mem_cons, List.not_mem_nil, or_false] at hw
    subst hw
    exact v_chk_ok v_fz_ok (fun S0 R0 => v_sp_ok ih) ih ck_212
  | 239, hw, _ =>
    have hw : w ∈ [rw_213] := hw
    simp only [List.mem_cons, List.not_mem_nil, or_false] at hw
    subst hw
    exact v_chk_ok v_fz_ok (fun S0 R0 => v_sp_ok ih) ih ck_213
  | 240, hw, _ =>
    have hw : w ∈ [rw_214] := hw
    simp only [List.mem_cons, List.not_mem_nil, or_false] at hw
    subst hw
    exact v_chk_ok v_fz_ok (fun S0 R0 => v_sp_ok ih) ih ck_214
  | 241, hw, _ =>
    have hw : w ∈ [rw_215] := hw
    simp only [List.mem_cons, List.not_mem_nil, or_false] at hw
    subst hw
    exact v_chk_ok v_fz_ok (fun S0 R0 => v_sp_ok ih) ih ck_215
  | 242, hw, _ => exact absurd (show w ∈ ([] : List v_Rw) from hw) (by simp)
  | 243, hw, _ =>
    have hw : w ∈ [rw_216] := hw
    simp only [List.mem_cons, List.not_mem_nil, or_false] at hw
    subst hw
    exact v_chk_ok v_fz_ok (fun S0 R0 => v_sp_ok ih) ih ck_216
  | 244, hw, _ =>
    have hw : w ∈ [rw_217] := hw
    simp only [List.mem_cons, List.not_mem_nil, or_false] at hw
    subst hw
    exact v_chk_ok v_fz_ok (fun S0 R0 => v_sp_ok ih) ih ck_217
  | 245, hw, _ =>
    have hw : w ∈ [rw_218] := hw
    simp only [List.mem_cons, List.not_mem_nil, or_false] at hw
    subst hw
    exact v_chk_ok v_fz_ok (fun S0 R0 => v_sp_ok ih) ih ck_218
  | 246, hw, _ =>
    have hw : w ∈ [rw_219] := hw
    simp only [List.mem_cons, List.not_mem_nil, or_false] at hw
    subst hw
    exact v_chk_ok v_fz_ok (fun S0 R0 => v_sp_ok ih) ih ck_219
  | 247, hw, _ =>
    have hw : w ∈ [rw_220] := hw
    simp only [List.mem_cons, List.not_mem_nil, or_false] at hw
    subst hw
    exact v_chk_ok v_fz_ok (fun S0 R0 => v_sp_ok ih) ih ck_220
  | 248, hw, _ =>
    have hw : w ∈ [rw_221] := hw
    simp only [List.mem_cons, List.not_mem_nil, or_false] at hw
    subst hw
    exact v_chk_ok v_fz_ok (fun S0 R0 => v_sp_ok ih) ih ck_221
  | 249, hw, _ =>
    have hw : w ∈ [rw_222] := hw
    simp only [List.mem_cons, List.not_mem_nil, or_false] at hw
    subst hw
    exact v_chk_ok v_fz_ok (fun S0 R0 => v_sp_ok ih) ih ck_222
  | 250, hw, _ => exact absurd (show w ∈ ([] : List v_Rw) from hw) (by simp)
  | 251, hw, _ => exact absurd (show w ∈ ([] : List v_Rw) from hw) (by simp)
  | 252, hw, _ => exact absurd (show w ∈ ([] : List v_Rw) from hw) (by simp)
  | 253, hw, _ =>
    have hw : w ∈ [rw_223] := hw
    simp only [List.mem_cons, List.not_mem_nil, or_false] at hw
    subst hw
    exact v_chk_ok v_fz_ok (fun S0 R0 => v_sp_ok ih) ih ck_223
  | 254, hw, _ =>
    have hw : w ∈ [rw_224] := hw
    simp only [List.mem_cons, List.not_mem_nil, or_false] at hw
    subst hw
    exact v_chk_ok v_fz_ok (fun S0 R0 => v_sp_ok ih) ih ck_224
  | 255, hw, _ =>
    have hw : w ∈ [rw_225] := hw
    simp only [List.mem_cons, List.not_mem_nil, or_false] at hw
    subst hw
    exact v_chk_ok v_fz_ok (fun S0 R0 => v_sp_ok ih) ih ck_225
  | 256, hw, _ => exact absurd (show w ∈ ([] : List v_Rw) from hw) (by simp)
  | 257, hw, _ =>
    have hw : w ∈ [rw_226] := hw
    simp only [List.mem_cons, List.not_mem_nil, or_false] at hw
    subst hw
    exact v_chk_ok v_fz_ok (fun S0 R0 => v_sp_ok ih) ih ck_226
  | 258, hw, _ =>
    have hw : w ∈ [rw_227] := hw
    simp only [List.mem_cons, List.not_mem_nil, or_false] at hw
    subst hw
    exact v_chk_ok v_fz_ok (fun S0 R0 => v_sp_ok ih) ih ck_227
  | 259, hw, _ =>
    have hw : w ∈ [rw_228] := hw
    simp only [List.mem_cons, List.not_mem_nil, or_false] at hw
    subst hw
    exact v_chk_ok v_fz_ok (fun S0 R0 => v_sp_ok ih) ih ck_228
  | 260, hw, _ =>
    have hw : w ∈ [rw_229] := hw
    simp only [List.mem_cons, List.not_mem_nil, or_false] at hw
    subst hw
    exact v_chk_ok v_fz_ok (fun S0 R0 => v_sp_ok ih) ih ck_229
  | 261, hw, _ => exact absurd (show w ∈ ([] : List v_Rw) from hw) (by simp)
  | 262, hw, _ =>
    have hw : w ∈ [rw_230] := hw
    simp only [List.mem_cons, List.not_mem_nil, or_false] at hw
    subst hw
    exact v_chk_ok v_fz_ok (fun S0 R0 => v_sp_ok ih) ih ck_230
  | 263, hw, _ =>
    have hw : w ∈ [rw_231] := hw
    simp only [List.mem_cons, List.not_mem_nil, or_false] at hw
    subst hw
    exact v_chk_ok v_fz_ok (fun S0 R0 => v_sp_ok ih) ih ck_231
  | 264, hw, _ =>
    have hw : w ∈ [rw_232] := hw
    simp only [List.mem_cons, List.not_mem_nil, or_false] at hw
    subst hw
    exact v_chk_ok v_fz_ok (fun S0 R0 => v_sp_ok ih) ih ck_232
  | 265, hw, _ =>
    have hw : w ∈ [rw_233] := hw
    simp only [List.mem_cons, List.not_mem_nil, or_false] at hw
    subst hw
    exact v_chk_ok v_fz_ok (fun S0 R0 => v_sp_ok ih) ih ck_233
  | 266, hw, _ =>
    have hw : w ∈ [rw_234] := hw
    simp only [List.mem_cons, List.not_mem_nil, or_false] at hw
    subst hw
    exact v_chk_ok v_fz_ok (fun S0 R0 => v_sp_ok ih) ih ck_234
  | 267, hw, _ =>
    have hw : w ∈ [rw_235] := hw
    simp only [List.mem_cons, List.not_mem_nil, or_false] at hw
    subst hw
    exact v_chk_ok v_fz_ok (fun S0 R0 => v_sp_ok ih) ih ck_235
  | 268, hw, _ =>
    have hw : w ∈ [rw_236] := hw
    simp only [List.mem_cons, List.not_mem_nil, or_false] at hw
    subst hw
    exact v_chk_ok v_fz_ok (fun S0 R0 => v_sp_ok ih) ih ck_236
  | 269, hw, _ =>
    have hw : w ∈ [rw_237] := hw
    simp only [List.mem_cons, List.not_mem_nil, or_false] at hw
    subst hw
    exact v_chk_ok v_fz_ok (fun S0 R0 => v_sp_ok ih) ih ck_237
  | 270, hw, _ =>
    have hw : w ∈ [rw_238] := hw
    simp only [List.mem_cons, List.not_mem_nil, or_false] at hw
    subst hw
    exact hr_X12_laysLessons ih
  | 271, hw, _ =>
    have hw : w ∈ [rw_239] := hw
    simp only [List.mem_cons, List.not_mem_nil, or_false] at hw
    subst hw
    exact v_chk_ok v_fz_ok (fun S0 R0 => v_sp_ok ih) ih ck_239
  | 272, hw, _ =>
    have hw : w ∈ [rw_240] := hw
    simp only [List.mem_cons, List.not_mem_nil, or_false] at hw
    subst hw
    exact v_chk_ok v_fz_ok (fun S0 R0 => v_sp_ok ih) ih ck_240
  | 273, hw, _ =>
    have hw : w ∈ [rw_241] := hw
    simp only [List.mem_cons, List.not_mem_nil, or_false] at hw
    subst hw
    exact v_chk_ok v_fz_ok (fun S0 R0 => v_sp_ok ih) ih ck_241
  | 274, hw, _ =>
    have hw : w ∈ [rw_242] := hw
    simp only [List.mem_cons, List.not_mem_nil, or_false] at hw
    subst hw
    exact v_chk_ok v_fz_ok (fun S0 R0 => v_sp_ok ih) ih ck_242
  | 275, hw, _ =>
    have hw : w ∈ [rw_243] := hw
    simp only [List.mem_cons, List.not_mem_nil, or_false] at hw
    subst hw
    exact v_chk_ok v_fz_ok (fun S0 R0 => v_sp_ok ih) ih ck_243
  | 276, hw, _ =>
    have hw : w ∈ [rw_244] := hw
    simp only [List.mem_cons, List.not_mem_nil, or_false] at hw
    subst hw
    exact v_chk_ok v_fz_ok (fun S0 R0 => v_sp_ok ih) ih ck_244
  | 277, hw, _ =>
    have hw : w ∈ [rw_245] := hw
    simp only [List.mem_cons, List.not_mem_nil, or_false] at hw
    subst hw
    exact hr_X12_laysPlaces ih
  | 278, hw, _ =>
    have hw : w ∈ [rw_246] := hw
    simp only [List.mem_cons, List.not_mem_nil, or_false] at hw
    subst hw
    exact v_chk_ok v_fz_ok (fun S0 R0 => v_sp_ok ih) ih ck_246
  | 279, hw, _ =>
    have hw : w ∈ [rw_247] := hw
    simp only [List.mem_cons, List.not_mem_nil, or_false] at hw
    subst hw
    exact hr_X12_fair ih
  | 280, hw, _ =>
    have hw : w ∈ [rw_248] := hw
    simp only [List.mem_cons, List.not_mem_nil, or_false] at hw
    subst hw
    exact v_chk_ok v_fz_ok (fun S0 R0 => v_sp_ok ih) ih ck_248
  | 281, hw, _ =>
    have hw : w ∈ [rw_249] := hw
    simp only [List.mem_cons, List.not_mem_nil, or_false] at hw
    subst hw
    exact v_chk_ok v_fz_ok (fun S0 R0 => v_sp_ok ih) ih ck_249
  | 282, hw, _ =>
    have hw : w ∈ [rw_250] := hw
    simp only [List.mem_cons, List.not_mem_nil, or_false] at hw
    subst hw
    exact v_chk_ok v_fz_ok (fun S0 R0 => v_sp_ok ih) ih ck_250
  | 283, hw, _ =>
    have hw : w ∈ [rw_251] := hw
    simp only [List.mem_cons, List.not_mem_nil, or_false] at hw
    subst hw
    exact v_chk_ok v_fz_ok (fun S0 R0 => v_sp_ok ih) ih ck_251
  | 284, hw, _ =>
    have hw : w ∈ [rw_252, rw_253, rw_254, rw_255, rw_256, rw_257, rw_258, rw_259] := hw
    simp only [List.mem_cons, List.not_mem_nil, or_false] at hw
    rcases hw with rfl | rfl | rfl | rfl | rfl | rfl | rfl | rfl
    · exact v_chk_ok v_fz_ok (fun S0 R0 => v_sp_ok ih) ih ck_252
    · exact v_chk_ok v_fz_ok (fun S0 R0 => v_sp_ok ih) ih ck_253
    · exact v_chk_ok v_fz_ok (fun S0 R0 => v_sp_ok ih) ih ck_254
    · exact v_chk_ok v_fz_ok (fun S0 R0 => v_sp_ok ih) ih ck_255
    · exact v_chk_ok v_fz_ok (fun S0 R0 => v_sp_ok ih) ih ck_256
    · exact v_chk_ok v_fz_ok (fun S0 R0 => v_sp_ok ih) ih ck_257
    · exact v_chk_ok v_fz_ok (fun S0 R0 => v_sp_ok ih) ih ck_258
    · exact v_chk_ok v_fz_ok (fun S0 R0 => v_sp_ok ih) ih ck_259
  | 285, hw, _ =>
    have hw : w ∈ [rw_260] := hw
    simp only [List.mem_cons, List.not_mem_nil, or_false] at hw
    subst hw
    exact v_chk_ok v_fz_ok (fun S0 R0 => v_sp_ok ih) ih ck_260
  | 286, hw, _ => exact absurd (show w ∈ ([] : List v_Rw) from hw) (by simp)
  | 287, hw, _ =>
    have hw : w ∈ [rw_261] := hw
    simp only [List.mem_cons, List.not_mem_nil, or_false] at hw
    subst hw
    exact v_chk_ok v_fz_ok (fun S0 R0 => v_sp_ok ih) ih ck_261
  | 288, hw, _ =>
    have hw : w ∈ [rw_262] := hw
    simp only [List.mem_cons, List.not_mem_nil, or_false] at hw
    subst hw
    exact hr_X12_nursed ih
  | 289, hw, _ => exact absurd (show w ∈ ([] : List v_Rw) from hw) (by simp)
  | 290, hw, _ =>
    have hw : w ∈ [rw_263] := hw
    simp only [List.mem_cons, List.not_mem_nil, or_false] at hw
    subst hw
    exact hr_X12_round ih
  | 291, hw, _ => exact absurd (show w ∈ ([] : List v_Rw) from hw) (by simp)
  | 292, hw, _ =>
    have hw : w ∈ [rw_264] := hw
    simp only [List.mem_cons, List.not_mem_nil, or_false] at hw
    subst hw
    exact v_chk_ok v_fz_ok (fun S0 R0 => v_sp_ok ih) ih ck_264
  | 293, hw, _ =>
    have hw : w ∈ [rw_265] := hw
    simp only [List.mem_cons, List.not_mem_nil, or_false] at hw
    subst hw
    exact v_chk_ok v_fz_ok (fun S0 R0 => v_sp_ok ih) ih ck_265
  | 294, hw, _ =>
    have hw : w ∈ [rw_266] := hw
    simp only [List.mem_cons, List.not_mem_nil, or_false] at hw
    subst hw
    exact v_chk_ok v_fz_ok (fun S0 R0 => v_sp_ok ih) ih ck_266
  | 295, hw, _ =>
    have hw : w ∈ [rw_267] := hw
    simp only [List.mem_cons, List.not_mem_nil, or_false] at hw
    subst hw
    exact v_chk_ok v_fz_ok (fun S0 R0 => v_sp_ok ih) ih ck_267
  | 296, hw, _ =>
    have hw : w ∈ [rw_268] := hw
    simp only [List.mem_cons, List.not_mem_nil, or_false] at hw
    subst hw
    exact v_chk_ok v_fz_ok (fun S0 R0 => v_sp_ok ih) ih ck_268
  | 297, hw, _ =>
    have hw : w ∈ [rw_269] := hw
    simp only [List.mem_cons, List.not_mem_nil, or_false] at hw
    subst hw
    exact v_chk_ok v_fz_ok (fun S0 R0 => v_sp_ok ih) ih ck_269
  | 298, hw, _ =>
    have hw : w ∈ [rw_270] := hw
    simp only [List.mem_cons, List.not_mem_nil, or_false] at hw
    subst hw
    exact v_chk_ok v_fz_ok (fun S0 R0 => v_sp_ok ih) ih ck_270
  | 299, hw, _ =>
    have hw : w ∈ [rw_276] := hw
    simp only [List.mem_cons, List.not_mem_nil, or_false] at hw
    subst hw
    exact hr_J6_bitCount_0f7a4 ih
  | 300, hw, _ =>
    have hw : w ∈ [rw_271, rw_272, rw_273, rw_274, rw_275] := hw
    simp only [List.mem_cons, List.not_mem_nil, or_false] at hw
    rcases hw with rfl | rfl | rfl | rfl | rfl
    · exact v_chk_ok v_fz_ok (fun S0 R0 => v_sp_ok ih) ih ck_271
    · exact v_chk_ok v_fz_ok (fun S0 R0 => v_sp_ok ih) ih ck_272
    · exact v_chk_ok v_fz_ok (fun S0 R0 => v_sp_ok ih) ih ck_273
    · exact v_chk_ok v_fz_ok (fun S0 R0 => v_sp_ok ih) ih ck_274
    · exact v_chk_ok v_fz_ok (fun S0 R0 => v_sp_ok ih) ih ck_275
  | n + 301, _, h => omega
theorem v_met {L : Nat} {xs : Nat → Int32} : ∀ (n x : Nat) (w : v_Rw), w ∈ v_rw x → w.1 < n → v_Met L xs v_ty v_Op x w
  | 0, _, _, _, h => by omega
  | n + 1, x, w, hw, h => v_rows_ok x w hw (fun x' w' hw' h' => v_met n x' w' hw' (by omega))
end Prt40
section Prt41
/-! the start: both objects are made -/
noncomputable def g_arl (ins : Instr) (st : List Value) : Bool := match ins, st with
  | .arraylength, .ref 0 :: _ => true
  | _, _ => false
noncomputable def g_sC (d nL : Nat) (en : g_En) (pc : Nat) (ls : g_Lc) (st : List Value) (σ : List g_Ce) : Option (Nat × g_Lc × List Value × List g_Ce) := bif g_arl en.1.1 st then none else g_step d nL 0 (fun _ => 0) en pc ls st σ
noncomputable abbrev g_Rc : Type := Nat → g_M → Nat → g_Lc → List Value → List g_Ce → Option (Option Value × List g_Ce)
/-- the pure machine where the script isn't asked -/
noncomputable def g_rC (fuel : Nat) : g_Rc := Nat.rec (motive := fun _ => g_Rc) (fun _ _ _ _ _ _ => none) (fun _ ih d M pc ls st σ => match M.2.2.2.2.2 pc with
  | none => none
  | some en => match g_sC d M.2.2.2.1 en pc ls st σ with
    | some q => ih d M q.1 q.2.1 q.2.2.1 q.2.2.2
    | none => bif g_arl en.1.1 st then none else match g_rt en.1.1 M.2.2.2.2.1 st with
      | some r => some (r, σ)
      | none => match g_ki en.1.1 with
        | none => none
        | some k => match d with
          | 0 => none
          | Nat.succ d' => bif en.2.1 == 99999 then (match g_oi k st with
            | some rest => ih (d' + 1) M (pc + 3) ls rest σ
            | none => none) else
            match g_mt en.2.1 with
            | none => none
            | some M' => match g_cl k en.2.2.1 M'.1 st σ with
              | none => none
              | some q => bif decide (g_cat q.2 ≤ 8) && decide ((lg_sl q.1).length ≤ M'.2.2.2.1) then
                  (match ih d' M' 0 (lv_args 0 q.1) [] σ with
                  | none => none
                  | some w => ih (d' + 1) M (pc + 3) ls (w.1.toList ++ q.2) w.2) else none) fuel
theorem g_ia_0 {st : List Value} {σ : List g_Ce} {q : List Value × List g_Ce} (h : g_ia 0 (fun _ => 0) st σ = some q) (L : Nat) (xs : Nat → Int32) : g_ia L xs st σ = some q := by
  have ho : ∀ i, g_out i 0 = true := fun i => by unfold g_out; simp
  match st, h with
  | .int i :: .ref 0 :: r, h =>
    have h : (bif g_out i 0 then none else some (Value.int 0 :: r, σ)) = some q := h
    rw [ho] at h
    cases h
  | .int i :: .ref (a + 1) :: r, h => exact h
theorem g_al_0 {st : List Value} {σ : List g_Ce} {q : List Value × List g_Ce} (ha : g_arl .arraylength st = false) (h : g_al 0 st σ = some q) (L : Nat) : g_al L st σ = some q := by
  match st, ha, h with
  | .ref 0 :: r, ha, _ => cases ha
  | .ref (a + 1) :: r, _, h => exact h
theorem g_sC_some {d nL : Nat} {en : g_En} {pc : Nat} {ls : g_Lc} {st : List Value} {σ : List g_Ce} {q : Nat × g_Lc × List Value × List g_Ce} (h : g_sC d nL en pc ls st σ = some q) (L : Nat) (xs : Nat → Int32) : g_step d nL L xs en pc ls st σ = some q := by
  unfold g_sC at h
  cases ha : g_arl en.1.1 st with
  | true => rw [ha] at h; cases h
  | false =>
    rw [ha] at h
    have h : g_step d nL 0 (fun _ => 0) en pc ls st σ = some q := h
    have key : ∀ q, g_hp d 0 (fun _ => 0) en.1.1 en.2.1 en.2.2.1 st σ = some q → g_hp d L xs en.1.1 en.2.1 en.2.2.1 st σ = some q := by
      intro q hq
      generalize en.1.1 = ins at hq ha
      cases ins <;> first | exact hq | skip
      · exact g_al_0 ha hq L
      · exact g_ia_0 hq L xs
    unfold g_step at h
    split at h
    · rename_i st' h1
      cases h
      exact g_st_stk h1
    · rename_i h1
      split at h
      · rename_i q' h2
        cases h
        exact g_st_lcl h1 h2
      · rename_i h2
        split at h
        · rename_i q' h3
          cases h
          exact g_st_jmp h1 h2 h3
        · rename_i h3
          split at h
          · rename_i q' h4
            cases h
            exact g_st_hp h1 h2 h3 (key _ h4)
          · cases h
theorem g_sC_none {d nL : Nat} {en : g_En} {pc : Nat} {ls : g_Lc} {st : List Value} {σ : List g_Ce} {k : Nat} (ha : g_arl en.1.1 st = false) (h : g_sC d nL en pc ls st σ = none) (hk : g_ki en.1.1 = some k) (L : Nat) (xs : Nat → Int32) : g_step d nL L xs en pc ls st σ = none := by
  unfold g_sC at h
  rw [ha] at h
  have h : g_step d nL 0 (fun _ => 0) en pc ls st σ = none := h
  obtain ⟨⟨ins, len⟩, x, y, z⟩ := en
  unfold g_ki at hk
  dsimp only at hk
  split at hk <;> first | exact h | cases hk
theorem g_rC_s (n d : Nat) (M : g_M) (pc : Nat) (ls : g_Lc) (st : List Value) (σ : List g_Ce) : g_rC (n + 1) d M pc ls st σ = (match M.2.2.2.2.2 pc with
      | none => none
      | some en => match g_sC d M.2.2.2.1 en pc ls st σ with
        | some q => g_rC n d M q.1 q.2.1 q.2.2.1 q.2.2.2
        | none => bif g_arl en.1.1 st then none else match g_rt en.1.1 M.2.2.2.2.1 st with
          | some r => some (r, σ)
          | none => match g_ki en.1.1 with
            | none => none
            | some k => match d with
              | 0 => none
              | Nat.succ d' => bif en.2.1 == 99999 then (match g_oi k st with
                | some rest => g_rC n (d' + 1) M (pc + 3) ls rest σ
                | none => none) else
                match g_mt en.2.1 with
                | none => none
                | some M' => match g_cl k en.2.2.1 M'.1 st σ with
                  | none => none
                  | some q => bif decide (g_cat q.2 ≤ 8) && decide ((lg_sl q.1).length ≤ M'.2.2.2.1) then
                      (match g_rC n d' M' 0 (lv_args 0 q.1) [] σ with
                      | none => none
                      | some w => g_rC n (d' + 1) M (pc + 3) ls (w.1.toList ++ q.2) w.2) else none) := rfl
theorem g_rC_ok (L : Nat) (xs : Nat → Int32) : ∀ (n d : Nat) (M : g_M) (pc : Nat) (ls : g_Lc) (st : List Value) (σ : List g_Ce) (r : Option Value × List g_Ce), g_rC n d M pc ls st σ = some r → g_run g_mt L xs n d M pc ls st σ = some r := by
  intro n
  induction n with
  | zero => intro d M pc ls st σ r h; cases h
  | succ n ih =>
    intro d M pc ls st σ r h
    rw [g_rC_s] at h
    split at h
    · cases h
    · rename_i en hen
      split at h
      · rename_i q hs
        rw [g_run_step hen (g_sC_some hs L xs)]
        exact ih _ _ _ _ _ _ _ h
      · rename_i hs
        cases ha : g_arl en.1.1 st with
        | true => rw [ha] at h; cases h
        | false =>
          rw [ha] at h
          dsimp only [cond_false] at h
          split at h
          · rename_i r0 hrt
            cases h
            exact g_run_ret hen (g_step_ret hrt) hrt
          · rename_i hrt
            split at h
            · cases h
            · rename_i k hk
              cases d with
              | zero => cases h
              | succ e =>
                have hs2 := g_sC_none ha hs hk L xs
                obtain ⟨⟨ins, len⟩, x, y, z⟩ := en
                dsimp only at h hrt hk
                cases hx : (x == 99999) with
                | true =>
                  rw [hx] at h
                  dsimp only [cond_true] at h
                  split at h
                  · rename_i ho
                    rw [g_run_oi hen hs2 hrt hk hx ho]
                    exact ih _ _ _ _ _ _ _ h
                  · cases h
                | false =>
                  rw [hx] at h
                  dsimp only [cond_false] at h
                  split at h
                  · cases h
                  · rename_i M' hM'
                    split at h
                    · cases h
                    · rename_i q hq
                      cases hc : (decide (g_cat q.2 ≤ 8) && decide ((lg_sl q.1).length ≤ M'.2.2.2.1)) with
                      | false => rw [hc] at h; cases h
                      | true =>
                        rw [hc] at h
                        dsimp only [cond_true] at h
                        rw [Bool.and_eq_true, decide_eq_true_eq, decide_eq_true_eq] at hc
                        split at h
                        · cases h
                        · rename_i w hw
                          rw [g_run_call hen hs2 hrt hk hx hM' hq hc.1 hc.2 (ih _ _ _ _ _ _ _ hw)]
                          exact ih _ _ _ _ _ _ _ h
/-- more fuel does no harm -/
theorem g_run_n (L : Nat) (xs : Nat → Int32) : ∀ (n d : Nat) (M : g_M) (pc : Nat) (ls : g_Lc) (st : List Value) (σ : List g_Ce) (r : Option Value × List g_Ce), g_run g_mt L xs n d M pc ls st σ = some r → g_run g_mt L xs (n + 1) d M pc ls st σ = some r := by
  intro n
  induction n with
  | zero => intro d M pc ls st σ r h; simp [g_run] at h
  | succ n ih =>
    intro d M pc ls st σ r h
    rw [g_run] at h
    split at h
    · rename_i hn
      split at h
      · rename_i hm
        rw [g_run]
        simp only [hn, hm]
        exact ih _ _ _ _ _ _ _ h
      · cases h
    · rename_i en hen
      split at h
      · rename_i q hs
        rw [g_run_step hen hs]
        exact ih _ _ _ _ _ _ _ h
      · rename_i hs
        split at h
        · rename_i r0 hrt
          cases h
          exact g_run_ret hen hs hrt
        · rename_i hrt
          split at h
          · cases h
          · rename_i k hk
            cases d with
            | zero => cases h
            | succ e =>
              obtain ⟨⟨ins, len⟩, x, y, z⟩ := en
              dsimp only at h hrt hk
              cases hx : (x == 99999) with
              | true =>
                rw [hx] at h
                dsimp only [cond_true] at h
                split at h
                · rename_i ho
                  rw [g_run_oi hen hs hrt hk hx ho]
                  exact ih _ _ _ _ _ _ _ h
                · cases h
              | false =>
                rw [hx] at h
                dsimp only [cond_false] at h
                split at h
                · cases h
                · rename_i M' hM'
                  split at h
                  · cases h
                  · rename_i q hq
                    cases hc : (decide (g_cat q.2 ≤ 8) && decide ((lg_sl q.1).length ≤ M'.2.2.2.1)) with
                    | false => rw [hc] at h; cases h
                    | true =>
                      rw [hc] at h
                      dsimp only [cond_true] at h
                      rw [Bool.and_eq_true, decide_eq_true_eq, decide_eq_true_eq] at hc
                      split at h
                      · cases h
                      · rename_i w hw
                        rw [g_run_call hen hs hrt hk hx hM' hq hc.1 hc.2 (ih _ _ _ _ _ _ _ hw)]
                        exact ih _ _ _ _ _ _ _ h
theorem g_run_m (L : Nat) (xs : Nat → Int32) {n : Nat} (k : Nat) {d : Nat} {M : g_M} {pc : Nat} {ls : g_Lc} {st : List Value} {σ : List g_Ce} {r : Option Value × List g_Ce} (h : g_run g_mt L xs n d M pc ls st σ = some r) : g_run g_mt L xs (n + k) d M pc ls st σ = some r := by
  induction k with
  | zero => exact h
  | succ k ih => exact g_run_n L xs (n + k) d M pc ls st σ r ih
noncomputable abbrev m_X11_init : g_M := (g_cn 11, yX11_init, cX11_init, 5, none, g_look2 ttX11_init)
set_option maxRecDepth 20000 in
theorem mt_X11_init : g_mt 110 = some m_X11_init := rfl
noncomputable abbrev m_X12_init : g_M := (g_cn 12, yX12_init, cX12_init, 2, none, g_look2 ttX12_init)
set_option maxRecDepth 20000 in
theorem mt_X12_init : g_mt 159 = some m_X12_init := rfl
noncomputable def v_w1 : Option (Option Value × List g_Ce) := g_rC 3000 59 m_X11_init 0 [(0, .ref 1)] [] [.inr (11, g_df 11)]
noncomputable def v_s1 : List g_Ce := match v_w1 with
  | some w => w.2
  | none => []
noncomputable def v_w2 : Option (Option Value × List g_Ce) := g_rC 3000 59 m_X12_init 0 [(0, .ref 100)] [] (v_s1 ++ [.inr (12, g_df 12)])
noncomputable def v_s0 : List g_Ce := match v_w2 with
  | some w => w.2
  | none => []
noncomputable def v_isV (w : Option (Option Value × List g_Ce)) : Bool := match w with
  | some (none, _) => true
  | _ => false
set_option maxRecDepth 100000 in
theorem v_w1_ok : (v_isV v_w1 && Nat.beq v_s1.length 99) = true := by decide +kernel
set_option maxRecDepth 100000 in
theorem v_w2_ok : v_isV v_w2 = true := by decide +kernel
noncomputable def v_S0 : v_Sf := fun a => match v_s0[a]? with
  | some (.inl (_, _, .inl f)) => f
  | some (.inr (_, fs)) => fun j => (match fs[j]? with
    | some (.int v) => v
    | _ => 0)
  | _ => fun _ => 0
noncomputable def v_R0 : v_Rf := fun a => match v_s0[a]? with
  | some (.inl (_, _, .inr f)) => f
  | some (.inr (_, fs)) => fun j => (match fs[j]? with
    | some (.ref r) => some r
    | _ => none)
  | _ => fun _ => none
noncomputable def v_okf (t : Option v_Ft) (v : Option Value) : Bool := match t, v with
  | some (.inl b), some (.int x) => q_ile b.1 x.toInt && q_ile x.toInt b.2
  | some (.inr (.inl k)), some (.ref r) => Nat.beq r k
  | some (.inr (.inr l)), some (.ref r) => l.contains r
  | _, _ => false
noncomputable def v_okc (t : v_Ct) (c : g_Ce) : Bool := match t, c with
  | .inl (tg, n, lo, hi), .inl (tg', n', .inl f) => (Nat.beq tg tg' && Nat.beq n n') && (List.range n).all (fun j => q_ile lo (f j).toInt && q_ile (f j).toInt hi)
  | .inr (.inl l), .inl (tg', n', .inr f) => (Nat.beq tg' 3 && Nat.beq l.length n') && (List.range l.length).all (fun j => decide (f j = l[j]?))
  | .inr (.inr (ci, ts)), .inr (ci', fs) => (Nat.beq ci ci' && Nat.beq ts.length fs.length) && (List.range ts.length).all (fun j => v_okf ts[j]? fs[j]?)
  | _, _ => false
noncomputable def v_okS (σ : List g_Ce) : Bool := Nat.beq σ.length v_N && (List.range v_N).all (fun a => match v_ty a, σ[a]? with
  | some t, some c => v_okc t c
  | _, _ => false)
set_option maxRecDepth 100000 in
theorem v_s0_ok : (v_okS v_s0 && (q_ieq (v_S0 99 16).toInt 0 && q_ieq (v_S0 99 17).toInt 0)) = true := by decide +kernel
theorem v_okS_cell {a : Nat} (ha : a < v_N) : ∃ t c, v_ty a = some t ∧ v_s0[a]? = some c ∧ v_okc t c = true := by
  have h := v_s0_ok
  rw [Bool.and_eq_true] at h
  have h1 := h.1
  unfold v_okS at h1
  rw [Bool.and_eq_true] at h1
  have h2 := List.all_eq_true.mp h1.2 a (List.mem_range.mpr ha)
  split at h2
  · rename_i t c ht hc
    exact ⟨t, c, ht, hc, h2⟩
  · cases h2
theorem v_s0_mk : v_s0 = v_mk v_ty v_S0 v_R0 := by
  have hlen : v_s0.length = v_N := by
    have h := v_s0_ok
    rw [Bool.and_eq_true] at h
    have h1 := h.1
    unfold v_okS at h1
    rw [Bool.and_eq_true] at h1
    exact Nat.eq_of_beq_eq_true h1.1
  apply List.ext_getElem?
  intro a
  rw [v_mk_get]
  by_cases ha : a < v_N
  · rw [if_pos ha]
    obtain ⟨t, c, ht, hc, hok⟩ := v_okS_cell ha
    rw [hc, ht]
    refine congrArg some ?_
    unfold v_okc at hok
    split at hok
    · rename_i tg n lo hi tg' n' f
      simp only [Bool.and_eq_true] at hok
      have e1 := Nat.eq_of_beq_eq_true hok.1.1
      have e2 := Nat.eq_of_beq_eq_true hok.1.2
      subst e1 e2
      have e : v_S0 a = f := by unfold v_S0; rw [hc]
      simp only [v_cell, e]
    · rename_i l tg' n' f
      simp only [Bool.and_eq_true] at hok
      have e1 := Nat.eq_of_beq_eq_true hok.1.1
      have e2 := Nat.eq_of_beq_eq_true hok.1.2
      subst e1 e2
      have e : v_R0 a = f := by unfold v_R0; rw [hc]
      simp only [v_cell, e]
    · rename_i ci ts ci' fs
      simp only [Bool.and_eq_true] at hok
      have e1 := Nat.eq_of_beq_eq_true hok.1.1
      have e2 := Nat.eq_of_beq_eq_true hok.1.2
      subst e1
      simp only [v_cell]
      refine congrArg (fun l => (Sum.inr (ci, l) : g_Ce)) ?_
      apply List.ext_getElem?
      intro j
      rw [List.getElem?_mapIdx]
      by_cases hj : j < ts.length
      · have hf := List.all_eq_true.mp hok.2 j (List.mem_range.mpr hj)
        have e3 : ts[j]? = some ts[j] := List.getElem?_eq_getElem hj
        have e4 : fs[j]? = some fs[j] := List.getElem?_eq_getElem (by omega)
        have eS : v_S0 a j = (match fs[j]? with
          | some (.int v) => v
          | _ => 0) := by unfold v_S0; rw [hc]
        have eR : v_R0 a j = (match fs[j]? with
          | some (.ref r) => some r
          | _ => none) := by unfold v_R0; rw [hc]
        rw [e3] at hf ⊢
        rw [e4] at hf eS eR ⊢
        simp only [Option.map_some]
        refine congrArg some ?_
        generalize fs[j] = v at hf eS eR
        generalize ts[j] = tt at hf
        unfold v_okf at hf
        unfold v_fv
        split at hf
        · rename_i b x h7 h8
          cases h7
          cases h8
          simp only [eS]
        · rename_i kk r h7 h8
          cases h7
          cases h8
          rw [Nat.eq_of_beq_eq_true hf]
        · rename_i l r h7 h8
          cases h7
          cases h8
          simp only [eR, va_rf]
        · cases hf
      · rw [List.getElem?_eq_none (by omega), List.getElem?_eq_none (by omega)]
        rfl
    · cases hok
  · rw [if_neg ha, List.getElem?_eq_none (by omega)]
theorem v_S0_Tb : v_Tb v_ty v_S0 v_R0 := by
  intro a t ht
  obtain ⟨t', c, ht', hc, hok⟩ := v_okS_cell (v_ty_lt a t ht)
  have : t = t' := Option.some.inj (ht.symm.trans ht')
  subst this
  unfold v_okc at hok
  split at hok
  · rename_i tg n lo hi tg' n' f
    simp only [Bool.and_eq_true] at hok
    have e : v_S0 a = f := by unfold v_S0; rw [hc]
    intro j hj
    have h := List.all_eq_true.mp hok.2 j (List.mem_range.mpr hj)
    rw [Bool.and_eq_true, q_ile_ok, q_ile_ok] at h
    rw [e]
    exact h
  · rename_i l tg' n' f
    simp only [Bool.and_eq_true] at hok
    have e : v_R0 a = f := by unfold v_R0; rw [hc]
    intro j r hj
    have h := List.all_eq_true.mp hok.2 j (List.mem_range.mpr (List.getElem?_eq_some_iff.mp hj).1)
    rw [decide_eq_true_eq] at h
    rw [e, h, hj]
  · rename_i ci ts ci' fs
    simp only [Bool.and_eq_true] at hok
    intro j ft hj
    have hjl := (List.getElem?_eq_some_iff.mp hj).1
    have hf := List.all_eq_true.mp hok.2 j (List.mem_range.mpr hjl)
    have eS : v_S0 a j = (match fs[j]? with
      | some (.int v) => v
      | _ => 0) := by unfold v_S0; rw [hc]
    have eR : v_R0 a j = (match fs[j]? with
      | some (.ref r) => some r
      | _ => none) := by unfold v_R0; rw [hc]
    rw [hj] at hf
    unfold v_okf at hf
    unfold v_TbF
    split at hf
    · rename_i b x h7 h8
      cases h7
      rw [h8] at eS
      rw [Bool.and_eq_true, q_ile_ok, q_ile_ok] at hf
      simp only [eS]
      exact hf
    · rename_i kk r h7 h8
      cases h7
      trivial
    · rename_i l r h7 h8
      cases h7
      rw [h8] at eR
      exact ⟨r, by simpa using hf, eR⟩
    · cases hf
  · cases hok
theorem v_S0_Op : v_Op v_S0 := by
  have h := v_s0_ok
  rw [Bool.and_eq_true, Bool.and_eq_true, q_ieq_ok, q_ieq_ok] at h
  exact ⟨fun k hk => by omega, fun k hk => by omega⟩
theorem v_mk_len (S : v_Sf) (R : v_Rf) : (v_mk v_ty S R).length = 173 := by simp [v_mk, v_N]
theorem v_mk_sl (S : v_Sf) (R : v_Rf) : g_sl (v_mk v_ty S R) = g_sl (v_mk v_ty (fun _ _ => 0) (fun _ _ => none)) := by
  unfold g_sl v_mk
  rw [List.map_map, List.map_map]
  refine congrArg List.sum ?_
  apply List.map_congr_left
  intro a _
  show g_sz (v_cell S R a (v_ty a)) = g_sz (v_cell (fun _ _ => 0) (fun _ _ => none) a (v_ty a))
  unfold v_cell
  split
  · rfl
  · rfl
  · simp [g_sz]
  · rfl
set_option maxRecDepth 100000 in
theorem v_mk_sl0 : Nat.ble (g_sl (v_mk v_ty (fun _ _ => 0) (fun _ _ => none))) 7302250 = true := by decide +kernel
end Prt41
