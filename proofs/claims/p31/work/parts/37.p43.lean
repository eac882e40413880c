/-! the law of this part -/
noncomputable abbrev m_L_law : g_M := (g_cn 13, x, code, 4, some .boolean, g_look2 ttL_law)
set_option maxHeartbeats 20000000 in
set_option maxRecDepth 20000 in
theorem l_loop {L : Nat} {xs : Nat → Int32} (hL : L ≤ 3072) : ∀ (m i : Nat) (S : v_Sf) (R : v_Rf), L ≤ i + 6 * m → i ≤ L → v_Tb v_ty S R → v_Op S → z_K S R → w_T L xs 60 m_L_law 18 [(3, .int (Int32.ofInt (i : Int))), (2, .ref 100), (1, .ref 1), (0, .ref 0)] [] S R (fun r _ _ => r = some (.int 1)) := by
  intro m
  induction m with
  | zero =>
    intro i S R hm hi hT hO hK
    generalize hQ : (fun (r : Option Value) (_ : v_Sf) (_ : v_Rf) => r = some (.int 1)) = Q
    have ei := w_nat (k := i) (by omega)
    have eL : (Int32.ofNat L - Int32.ofInt 6).toInt = (L : Int) - 6 := by
      show (Int32.ofInt (L : Int) - Int32.ofInt 6).toInt = _
      rw [← Int32.ofInt_sub]
      exact q_ofr (by omega) (by omega)
    refine w_st rfl (fun _ => rfl) ?_
    refine w_st rfl (fun _ => rfl) ?_
    show w_T L xs 60 m_L_law 20 [(3, .int (Int32.ofInt (i : Int))), (2, .ref 100), (1, .ref 1), (0, .ref 0)] [.ref 0, .int (Int32.ofInt (i : Int))] S R Q
    refine w_sal rfl ?_
    refine w_st rfl (fun _ => rfl) ?_
    refine w_st rfl (fun _ => rfl) ?_
    show w_T L xs 60 m_L_law 24 [(3, .int (Int32.ofInt (i : Int))), (2, .ref 100), (1, .ref 1), (0, .ref 0)] [.int ((Int32.ofNat L) - (Int32.ofInt 6)), .int (Int32.ofInt (i : Int))] S R Q
    refine w_br (P := ((Int32.ofNat L) - (Int32.ofInt 6)) < (Int32.ofInt (i : Int))) rfl (fun _ => rfl) (fun h24 => ?_) (fun h24 => ?_)
    · refine w_st rfl (fun _ => rfl) ?_
      show w_T L xs 60 m_L_law 1453 [(3, .int (Int32.ofInt (i : Int))), (2, .ref 100), (1, .ref 1), (0, .ref 0)] [.int (Int32.ofInt 1)] S R Q
      refine w_ret rfl (by rfl) ?_
      rw [← hQ]; rfl
    · exfalso; rw [q_lt32, eL, ei] at h24; omega
  | succ m ih =>
    intro i S R hm hi hT hO hK
    have ih2 := fun S1 R1 (h : i + 6 ≤ L) => ih (i + 6) S1 R1 (by omega) h
    generalize hQ : (fun (r : Option Value) (_ : v_Sf) (_ : v_Rf) => r = some (.int 1)) = Q at ih2 ⊢
    have ei := w_nat (k := i) (by omega)
    have eL : (Int32.ofNat L - Int32.ofInt 6).toInt = (L : Int) - 6 := by
      show (Int32.ofInt (L : Int) - Int32.ofInt 6).toInt = _
      rw [← Int32.ofInt_sub]
      exact q_ofr (by omega) (by omega)
    refine w_st rfl (fun _ => rfl) ?_
    refine w_st rfl (fun _ => rfl) ?_
    show w_T L xs 60 m_L_law 20 [(3, .int (Int32.ofInt (i : Int))), (2, .ref 100), (1, .ref 1), (0, .ref 0)] [.ref 0, .int (Int32.ofInt (i : Int))] S R Q
    refine w_sal rfl ?_
    refine w_st rfl (fun _ => rfl) ?_
    refine w_st rfl (fun _ => rfl) ?_
    show w_T L xs 60 m_L_law 24 [(3, .int (Int32.ofInt (i : Int))), (2, .ref 100), (1, .ref 1), (0, .ref 0)] [.int ((Int32.ofNat L) - (Int32.ofInt 6)), .int (Int32.ofInt (i : Int))] S R Q
    refine w_br (P := ((Int32.ofNat L) - (Int32.ofInt 6)) < (Int32.ofInt (i : Int))) rfl (fun _ => rfl) (fun h24 => ?_) (fun h24 => ?_)
    · refine w_st rfl (fun _ => rfl) ?_
      show w_T L xs 60 m_L_law 1453 [(3, .int (Int32.ofInt (i : Int))), (2, .ref 100), (1, .ref 1), (0, .ref 0)] [.int (Int32.ofInt 1)] S R Q
      refine w_ret rfl (by rfl) ?_
      rw [← hQ]; rfl
    · have hb : i + 6 ≤ L := by
        rw [q_lt32, eL, ei] at h24
        omega
      have tail : ∀ S1 R1, v_Tb v_ty S1 R1 → v_Op S1 → z_K S1 R1 → w_T L xs 60 m_L_law 1446 [(3, .int (Int32.ofInt (i : Int))), (2, .ref 100), (1, .ref 1), (0, .ref 0)] [] S1 R1 Q := by
        intro S1 R1 hT1 hO1 hK1
        refine w_st rfl (fun _ => rfl) ?_
        refine w_st rfl (fun _ => rfl) ?_
        have e6 : Int32.ofInt (i : Int) + Int32.ofInt 6 = Int32.ofInt ((i + 6 : Nat) : Int) := by rw [← Int32.ofInt_add]; rfl
        have := ih2 S1 R1 hb hT1 hO1 hK1
        rw [← e6] at this
        exact this
      refine w_st rfl (fun _ => rfl) ?_
      refine w_st rfl (fun _ => rfl) ?_
      show w_T L xs 60 m_L_law 29 [(3, .int (Int32.ofInt (i : Int))), (2, .ref 100), (1, .ref 1), (0, .ref 0)] [.int (Int32.ofInt (i : Int)), .ref 0] S R Q
      refine w_sld rfl (by first | (rw [← Int32.ofInt_add, q_ofr (by omega) (by omega)]; omega) | (rw [w_nat (by omega)]; omega)) (by first | (rw [← Int32.ofInt_add, q_ofr (by omega) (by omega)]; omega) | (rw [w_nat (by omega)]; omega)) ?_
      refine w_st rfl (fun _ => rfl) ?_
      refine w_st rfl (fun _ => rfl) ?_
      show w_T L xs 60 m_L_law 33 [(3, .int (Int32.ofInt (i : Int))), (2, .ref 100), (1, .ref 1), (0, .ref 0)] [.int ((xs (Int32.ofInt (i : Int)).toInt.toNat) &&& (Int32.ofInt 63))] S R Q
      refine w_ts rfl (by decide) (nd := 1446) (by decide) (fun k o hk hv => ?_) (tail S R hT hO hK)
      match k, hk with
      | 0, hk =>
        obtain rfl : (159 : Int) = o := Option.some.inj hk
        refine ⟨192, by decide, ?_⟩
        refine w_st rfl (fun _ => rfl) ?_
        refine w_st rfl (fun _ => rfl) ?_
        refine w_st rfl (fun _ => rfl) ?_
        refine w_st rfl (fun _ => rfl) ?_
        refine w_st rfl (fun _ => rfl) ?_
        show w_T L xs 60 m_L_law 197 [(3, .int (Int32.ofInt (i : Int))), (2, .ref 100), (1, .ref 1), (0, .ref 0)] [.int ((Int32.ofInt (i : Int)) + (Int32.ofInt 1)), .ref 0, .ref 1] S R Q
        refine w_sld rfl (by first | (rw [← Int32.ofInt_add, q_ofr (by omega) (by omega)]; omega) | (rw [w_nat (by omega)]; omega)) (by first | (rw [← Int32.ofInt_add, q_ofr (by omega) (by omega)]; omega) | (rw [w_nat (by omega)]; omega)) ?_
        refine w_st rfl (fun _ => rfl) ?_
        refine w_st rfl (fun _ => rfl) ?_
        refine w_st rfl (fun _ => rfl) ?_
        refine w_st rfl (fun _ => rfl) ?_
        show w_T L xs 60 m_L_law 202 [(3, .int (Int32.ofInt (i : Int))), (2, .ref 100), (1, .ref 1), (0, .ref 0)] [.int ((Int32.ofInt (i : Int)) + (Int32.ofInt 2)), .ref 0, .int (xs ((Int32.ofInt (i : Int)) + (Int32.ofInt 1)).toInt.toNat), .ref 1] S R Q
        refine w_sld rfl (by first | (rw [← Int32.ofInt_add, q_ofr (by omega) (by omega)]; omega) | (rw [w_nat (by omega)]; omega)) (by first | (rw [← Int32.ofInt_add, q_ofr (by omega) (by omega)]; omega) | (rw [w_nat (by omega)]; omega)) ?_
        refine w_st rfl (fun _ => rfl) ?_
        refine w_st rfl (fun _ => rfl) ?_
        refine w_st rfl (fun _ => rfl) ?_
        refine w_st rfl (fun _ => rfl) ?_
        show w_T L xs 60 m_L_law 207 [(3, .int (Int32.ofInt (i : Int))), (2, .ref 100), (1, .ref 1), (0, .ref 0)] [.int ((Int32.ofInt (i : Int)) + (Int32.ofInt 3)), .ref 0, .int (xs ((Int32.ofInt (i : Int)) + (Int32.ofInt 2)).toInt.toNat), .int (xs ((Int32.ofInt (i : Int)) + (Int32.ofInt 1)).toInt.toNat), .ref 1] S R Q
        refine w_sld rfl (by first | (rw [← Int32.ofInt_add, q_ofr (by omega) (by omega)]; omega) | (rw [w_nat (by omega)]; omega)) (by first | (rw [← Int32.ofInt_add, q_ofr (by omega) (by omega)]; omega) | (rw [w_nat (by omega)]; omega)) ?_
        refine w_st rfl (fun _ => rfl) ?_
        refine w_st rfl (fun _ => rfl) ?_
        refine w_st rfl (fun _ => rfl) ?_
        refine w_st rfl (fun _ => rfl) ?_
        show w_T L xs 60 m_L_law 212 [(3, .int (Int32.ofInt (i : Int))), (2, .ref 100), (1, .ref 1), (0, .ref 0)] [.int ((Int32.ofInt (i : Int)) + (Int32.ofInt 4)), .ref 0, .int (xs ((Int32.ofInt (i : Int)) + (Int32.ofInt 3)).toInt.toNat), .int (xs ((Int32.ofInt (i : Int)) + (Int32.ofInt 2)).toInt.toNat), .int (xs ((Int32.ofInt (i : Int)) + (Int32.ofInt 1)).toInt.toNat), .ref 1] S R Q
        refine w_sld rfl (by first | (rw [← Int32.ofInt_add, q_ofr (by omega) (by omega)]; omega) | (rw [w_nat (by omega)]; omega)) (by first | (rw [← Int32.ofInt_add, q_ofr (by omega) (by omega)]; omega) | (rw [w_nat (by omega)]; omega)) ?_
        refine w_st rfl (fun _ => rfl) ?_
        refine w_st rfl (fun _ => rfl) ?_
        refine w_st rfl (fun _ => rfl) ?_
        refine w_st rfl (fun _ => rfl) ?_
        show w_T L xs 60 m_L_law 217 [(3, .int (Int32.ofInt (i : Int))), (2, .ref 100), (1, .ref 1), (0, .ref 0)] [.int ((Int32.ofInt (i : Int)) + (Int32.ofInt 5)), .ref 0, .int (xs ((Int32.ofInt (i : Int)) + (Int32.ofInt 4)).toInt.toNat), .int (xs ((Int32.ofInt (i : Int)) + (Int32.ofInt 3)).toInt.toNat), .int (xs ((Int32.ofInt (i : Int)) + (Int32.ofInt 2)).toInt.toNat), .int (xs ((Int32.ofInt (i : Int)) + (Int32.ofInt 1)).toInt.toNat), .ref 1] S R Q
        refine w_sld rfl (by first | (rw [← Int32.ofInt_add, q_ofr (by omega) (by omega)]; omega) | (rw [w_nat (by omega)]; omega)) (by first | (rw [← Int32.ofInt_add, q_ofr (by omega) (by omega)]; omega) | (rw [w_nat (by omega)]; omega)) ?_
        show w_T L xs 60 m_L_law 218 [(3, .int (Int32.ofInt (i : Int))), (2, .ref 100), (1, .ref 1), (0, .ref 0)] [.int (xs ((Int32.ofInt (i : Int)) + (Int32.ofInt 5)).toInt.toNat), .int (xs ((Int32.ofInt (i : Int)) + (Int32.ofInt 4)).toInt.toNat), .int (xs ((Int32.ofInt (i : Int)) + (Int32.ofInt 3)).toInt.toNat), .int (xs ((Int32.ofInt (i : Int)) + (Int32.ofInt 2)).toInt.toNat), .int (xs ((Int32.ofInt (i : Int)) + (Int32.ofInt 1)).toInt.toNat), .ref 1] S R Q
        refine w_cv rfl (by decide) mt_X11_gust v_tyC rfl rfl rfl (Nat.le_of_ble_eq_true rfl) (Nat.le_of_ble_eq_true rfl) (Nat.le_of_ble_eq_true rfl) ?_
        show w_T L xs _ m_X11_gust 0 (lv_args 0 [.ref 1, .int (xs ((Int32.ofInt (i : Int)) + (Int32.ofInt 1)).toInt.toNat), .int (xs ((Int32.ofInt (i : Int)) + (Int32.ofInt 2)).toInt.toNat), .int (xs ((Int32.ofInt (i : Int)) + (Int32.ofInt 3)).toInt.toNat), .int (xs ((Int32.ofInt (i : Int)) + (Int32.ofInt 4)).toInt.toNat), .int (xs ((Int32.ofInt (i : Int)) + (Int32.ofInt 5)).toInt.toNat)]) [] S R _
        refine b_X11_gust _ _ _ _ _ hT hO hK (fun S1 R1 hT1 hO1 hP1 => ?_)
        refine w_st rfl (fun _ => rfl) ?_
        refine w_st rfl (fun _ => rfl) ?_
        refine w_st rfl (fun _ => rfl) ?_
        refine w_st rfl (fun _ => rfl) ?_
        refine w_st rfl (fun _ => rfl) ?_
        refine w_st rfl (fun _ => rfl) ?_
        show w_T L xs 60 m_L_law 227 [(3, .int (Int32.ofInt (i : Int))), (2, .ref 100), (1, .ref 1), (0, .ref 0)] [.int ((Int32.ofInt (i : Int)) + (Int32.ofInt 1)), .ref 0, .ref 100] S1 R1 Q
        refine w_sld rfl (by first | (rw [← Int32.ofInt_add, q_ofr (by omega) (by omega)]; omega) | (rw [w_nat (by omega)]; omega)) (by first | (rw [← Int32.ofInt_add, q_ofr (by omega) (by omega)]; omega) | (rw [w_nat (by omega)]; omega)) ?_
        refine w_st rfl (fun _ => rfl) ?_
        refine w_st rfl (fun _ => rfl) ?_
        refine w_st rfl (fun _ => rfl) ?_
        refine w_st rfl (fun _ => rfl) ?_
        show w_T L xs 60 m_L_law 232 [(3, .int (Int32.ofInt (i : Int))), (2, .ref 100), (1, .ref 1), (0, .ref 0)] [.int ((Int32.ofInt (i : Int)) + (Int32.ofInt 2)), .ref 0, .int (xs ((Int32.ofInt (i : Int)) + (Int32.ofInt 1)).toInt.toNat), .ref 100] S1 R1 Q
        refine w_sld rfl (by first | (rw [← Int32.ofInt_add, q_ofr (by omega) (by omega)]; omega) | (rw [w_nat (by omega)]; omega)) (by first | (rw [← Int32.ofInt_add, q_ofr (by omega) (by omega)]; omega) | (rw [w_nat (by omega)]; omega)) ?_
        refine w_st rfl (fun _ => rfl) ?_
        refine w_st rfl (fun _ => rfl) ?_
        refine w_st rfl (fun _ => rfl) ?_
        refine w_st rfl (fun _ => rfl) ?_
        show w_T L xs 60 m_L_law 237 [(3, .int (Int32.ofInt (i : Int))), (2, .ref 100), (1, .ref 1), (0, .ref 0)] [.int ((Int32.ofInt (i : Int)) + (Int32.ofInt 3)), .ref 0, .int (xs ((Int32.ofInt (i : Int)) + (Int32.ofInt 2)).toInt.toNat), .int (xs ((Int32.ofInt (i : Int)) + (Int32.ofInt 1)).toInt.toNat), .ref 100] S1 R1 Q
        refine w_sld rfl (by first | (rw [← Int32.ofInt_add, q_ofr (by omega) (by omega)]; omega) | (rw [w_nat (by omega)]; omega)) (by first | (rw [← Int32.ofInt_add, q_ofr (by omega) (by omega)]; omega) | (rw [w_nat (by omega)]; omega)) ?_
        refine w_st rfl (fun _ => rfl) ?_
        refine w_st rfl (fun _ => rfl) ?_
        refine w_st rfl (fun _ => rfl) ?_
        refine w_st rfl (fun _ => rfl) ?_
        show w_T L xs 60 m_L_law 242 [(3, .int (Int32.ofInt (i : Int))), (2, .ref 100), (1, .ref 1), (0, .ref 0)] [.int ((Int32.ofInt (i : Int)) + (Int32.ofInt 4)), .ref 0, .int (xs ((Int32.ofInt (i : Int)) + (Int32.ofInt 3)).toInt.toNat), .int (xs ((Int32.ofInt (i : Int)) + (Int32.ofInt 2)).toInt.toNat), .int (xs ((Int32.ofInt (i : Int)) + (Int32.ofInt 1)).toInt.toNat), .ref 100] S1 R1 Q
        refine w_sld rfl (by first | (rw [← Int32.ofInt_add, q_ofr (by omega) (by omega)]; omega) | (rw [w_nat (by omega)]; omega)) (by first | (rw [← Int32.ofInt_add, q_ofr (by omega) (by omega)]; omega) | (rw [w_nat (by omega)]; omega)) ?_
        refine w_st rfl (fun _ => rfl) ?_
        refine w_st rfl (fun _ => rfl) ?_
        refine w_st rfl (fun _ => rfl) ?_
        refine w_st rfl (fun _ => rfl) ?_
        show w_T L xs 60 m_L_law 247 [(3, .int (Int32.ofInt (i : Int))), (2, .ref 100), (1, .ref 1), (0, .ref 0)] [.int ((Int32.ofInt (i : Int)) + (Int32.ofInt 5)), .ref 0, .int (xs ((Int32.ofInt (i : Int)) + (Int32.ofInt 4)).toInt.toNat), .int (xs ((Int32.ofInt (i : Int)) + (Int32.ofInt 3)).toInt.toNat), .int (xs ((Int32.ofInt (i : Int)) + (Int32.ofInt 2)).toInt.toNat), .int (xs ((Int32.ofInt (i : Int)) + (Int32.ofInt 1)).toInt.toNat), .ref 100] S1 R1 Q
        refine w_sld rfl (by first | (rw [← Int32.ofInt_add, q_ofr (by omega) (by omega)]; omega) | (rw [w_nat (by omega)]; omega)) (by first | (rw [← Int32.ofInt_add, q_ofr (by omega) (by omega)]; omega) | (rw [w_nat (by omega)]; omega)) ?_
        show w_T L xs 60 m_L_law 248 [(3, .int (Int32.ofInt (i : Int))), (2, .ref 100), (1, .ref 1), (0, .ref 0)] [.int (xs ((Int32.ofInt (i : Int)) + (Int32.ofInt 5)).toInt.toNat), .int (xs ((Int32.ofInt (i : Int)) + (Int32.ofInt 4)).toInt.toNat), .int (xs ((Int32.ofInt (i : Int)) + (Int32.ofInt 3)).toInt.toNat), .int (xs ((Int32.ofInt (i : Int)) + (Int32.ofInt 2)).toInt.toNat), .int (xs ((Int32.ofInt (i : Int)) + (Int32.ofInt 1)).toInt.toNat), .ref 100] S1 R1 Q
        refine w_cv rfl (by decide) mt_X12_gust v_tyM rfl rfl rfl (Nat.le_of_ble_eq_true rfl) (Nat.le_of_ble_eq_true rfl) (Nat.le_of_ble_eq_true rfl) ?_
        show w_T L xs _ m_X12_gust 0 (lv_args 0 [.ref 100, .int (xs ((Int32.ofInt (i : Int)) + (Int32.ofInt 1)).toInt.toNat), .int (xs ((Int32.ofInt (i : Int)) + (Int32.ofInt 2)).toInt.toNat), .int (xs ((Int32.ofInt (i : Int)) + (Int32.ofInt 3)).toInt.toNat), .int (xs ((Int32.ofInt (i : Int)) + (Int32.ofInt 4)).toInt.toNat), .int (xs ((Int32.ofInt (i : Int)) + (Int32.ofInt 5)).toInt.toNat)]) [] S1 R1 _
        refine b_X12_gust _ _ _ _ _ hT1 hO1 hP1 (fun S2 R2 hT2 hO2 hK2 => ?_)
        refine w_st rfl (fun _ => rfl) ?_
        refine w_st rfl (fun _ => rfl) ?_
        show w_T L xs 60 m_L_law 1446 [(3, .int (Int32.ofInt (i : Int))), (2, .ref 100), (1, .ref 1), (0, .ref 0)] [] S2 R2 Q
        exact tail S2 R2 hT2 hO2 hK2
      | 1, hk =>
        obtain rfl : (222 : Int) = o := Option.some.inj hk
        refine ⟨255, by decide, ?_⟩
        refine w_st rfl (fun _ => rfl) ?_
        refine w_st rfl (fun _ => rfl) ?_
        refine w_st rfl (fun _ => rfl) ?_
        refine w_st rfl (fun _ => rfl) ?_
        refine w_st rfl (fun _ => rfl) ?_
        show w_T L xs 60 m_L_law 260 [(3, .int (Int32.ofInt (i : Int))), (2, .ref 100), (1, .ref 1), (0, .ref 0)] [.int ((Int32.ofInt (i : Int)) + (Int32.ofInt 1)), .ref 0, .ref 1] S R Q
        refine w_sld rfl (by first | (rw [← Int32.ofInt_add, q_ofr (by omega) (by omega)]; omega) | (rw [w_nat (by omega)]; omega)) (by first | (rw [← Int32.ofInt_add, q_ofr (by omega) (by omega)]; omega) | (rw [w_nat (by omega)]; omega)) ?_
        refine w_st rfl (fun _ => rfl) ?_
        refine w_st rfl (fun _ => rfl) ?_
        refine w_st rfl (fun _ => rfl) ?_
        refine w_st rfl (fun _ => rfl) ?_
        show w_T L xs 60 m_L_law 265 [(3, .int (Int32.ofInt (i : Int))), (2, .ref 100), (1, .ref 1), (0, .ref 0)] [.int ((Int32.ofInt (i : Int)) + (Int32.ofInt 2)), .ref 0, .int (xs ((Int32.ofInt (i : Int)) + (Int32.ofInt 1)).toInt.toNat), .ref 1] S R Q
        refine w_sld rfl (by first | (rw [← Int32.ofInt_add, q_ofr (by omega) (by omega)]; omega) | (rw [w_nat (by omega)]; omega)) (by first | (rw [← Int32.ofInt_add, q_ofr (by omega) (by omega)]; omega) | (rw [w_nat (by omega)]; omega)) ?_
        show w_T L xs 60 m_L_law 266 [(3, .int (Int32.ofInt (i : Int))), (2, .ref 100), (1, .ref 1), (0, .ref 0)] [.int (xs ((Int32.ofInt (i : Int)) + (Int32.ofInt 2)).toInt.toNat), .int (xs ((Int32.ofInt (i : Int)) + (Int32.ofInt 1)).toInt.toNat), .ref 1] S R Q
        refine w_cv rfl (by decide) mt_X11_name v_tyC rfl rfl rfl (Nat.le_of_ble_eq_true rfl) (Nat.le_of_ble_eq_true rfl) (Nat.le_of_ble_eq_true rfl) ?_
        show w_T L xs _ m_X11_name 0 (lv_args 0 [.ref 1, .int (xs ((Int32.ofInt (i : Int)) + (Int32.ofInt 1)).toInt.toNat), .int (xs ((Int32.ofInt (i : Int)) + (Int32.ofInt 2)).toInt.toNat)]) [] S R _
        refine b_X11_name _ _ hT hO hK (fun S1 R1 hT1 hO1 hP1 => ?_)
        refine w_st rfl (fun _ => rfl) ?_
        refine w_st rfl (fun _ => rfl) ?_
        refine w_st rfl (fun _ => rfl) ?_
        refine w_st rfl (fun _ => rfl) ?_
        refine w_st rfl (fun _ => rfl) ?_
        refine w_st rfl (fun _ => rfl) ?_
        show w_T L xs 60 m_L_law 275 [(3, .int (Int32.ofInt (i : Int))), (2, .ref 100), (1, .ref 1), (0, .ref 0)] [.int ((Int32.ofInt (i : Int)) + (Int32.ofInt 1)), .ref 0, .ref 100] S1 R1 Q
        refine w_sld rfl (by first | (rw [← Int32.ofInt_add, q_ofr (by omega) (by omega)]; omega) | (rw [w_nat (by omega)]; omega)) (by first | (rw [← Int32.ofInt_add, q_ofr (by omega) (by omega)]; omega) | (rw [w_nat (by omega)]; omega)) ?_
        refine w_st rfl (fun _ => rfl) ?_
        refine w_st rfl (fun _ => rfl) ?_
        refine w_st rfl (fun _ => rfl) ?_
        refine w_st rfl (fun _ => rfl) ?_
        show w_T L xs 60 m_L_law 280 [(3, .int (Int32.ofInt (i : Int))), (2, .ref 100), (1, .ref 1), (0, .ref 0)] [.int ((Int32.ofInt (i : Int)) + (Int32.ofInt 2)), .ref 0, .int (xs ((Int32.ofInt (i : Int)) + (Int32.ofInt 1)).toInt.toNat), .ref 100] S1 R1 Q
        refine w_sld rfl (by first | (rw [← Int32.ofInt_add, q_ofr (by omega) (by omega)]; omega) | (rw [w_nat (by omega)]; omega)) (by first | (rw [← Int32.ofInt_add, q_ofr (by omega) (by omega)]; omega) | (rw [w_nat (by omega)]; omega)) ?_
        show w_T L xs 60 m_L_law 281 [(3, .int (Int32.ofInt (i : Int))), (2, .ref 100), (1, .ref 1), (0, .ref 0)] [.int (xs ((Int32.ofInt (i : Int)) + (Int32.ofInt 2)).toInt.toNat), .int (xs ((Int32.ofInt (i : Int)) + (Int32.ofInt 1)).toInt.toNat), .ref 100] S1 R1 Q
        refine w_cv rfl (by decide) mt_X12_name v_tyM rfl rfl rfl (Nat.le_of_ble_eq_true rfl) (Nat.le_of_ble_eq_true rfl) (Nat.le_of_ble_eq_true rfl) ?_
        show w_T L xs _ m_X12_name 0 (lv_args 0 [.ref 100, .int (xs ((Int32.ofInt (i : Int)) + (Int32.ofInt 1)).toInt.toNat), .int (xs ((Int32.ofInt (i : Int)) + (Int32.ofInt 2)).toInt.toNat)]) [] S1 R1 _
        refine b_X12_name _ _ hT1 hO1 hP1 (fun S2 R2 hT2 hO2 hK2 => ?_)
        refine w_st rfl (fun _ => rfl) ?_
        refine w_st rfl (fun _ => rfl) ?_
        show w_T L xs 60 m_L_law 1446 [(3, .int (Int32.ofInt (i : Int))), (2, .ref 100), (1, .ref 1), (0, .ref 0)] [] S2 R2 Q
        exact tail S2 R2 hT2 hO2 hK2
      | 2, hk =>
        obtain rfl : (255 : Int) = o := Option.some.inj hk
        refine ⟨288, by decide, ?_⟩
        refine w_st rfl (fun _ => rfl) ?_
        refine w_st rfl (fun _ => rfl) ?_
        refine w_st rfl (fun _ => rfl) ?_
        refine w_st rfl (fun _ => rfl) ?_
        refine w_st rfl (fun _ => rfl) ?_
        show w_T L xs 60 m_L_law 293 [(3, .int (Int32.ofInt (i : Int))), (2, .ref 100), (1, .ref 1), (0, .ref 0)] [.int ((Int32.ofInt (i : Int)) + (Int32.ofInt 1)), .ref 0, .ref 1] S R Q
        refine w_sld rfl (by first | (rw [← Int32.ofInt_add, q_ofr (by omega) (by omega)]; omega) | (rw [w_nat (by omega)]; omega)) (by first | (rw [← Int32.ofInt_add, q_ofr (by omega) (by omega)]; omega) | (rw [w_nat (by omega)]; omega)) ?_
        refine w_st rfl (fun _ => rfl) ?_
        refine w_st rfl (fun _ => rfl) ?_
        refine w_st rfl (fun _ => rfl) ?_
        refine w_st rfl (fun _ => rfl) ?_
        show w_T L xs 60 m_L_law 298 [(3, .int (Int32.ofInt (i : Int))), (2, .ref 100), (1, .ref 1), (0, .ref 0)] [.int ((Int32.ofInt (i : Int)) + (Int32.ofInt 2)), .ref 0, .int (xs ((Int32.ofInt (i : Int)) + (Int32.ofInt 1)).toInt.toNat), .ref 1] S R Q
        refine w_sld rfl (by first | (rw [← Int32.ofInt_add, q_ofr (by omega) (by omega)]; omega) | (rw [w_nat (by omega)]; omega)) (by first | (rw [← Int32.ofInt_add, q_ofr (by omega) (by omega)]; omega) | (rw [w_nat (by omega)]; omega)) ?_
        show w_T L xs 60 m_L_law 299 [(3, .int (Int32.ofInt (i : Int))), (2, .ref 100), (1, .ref 1), (0, .ref 0)] [.int (xs ((Int32.ofInt (i : Int)) + (Int32.ofInt 2)).toInt.toNat), .int (xs ((Int32.ofInt (i : Int)) + (Int32.ofInt 1)).toInt.toNat), .ref 1] S R Q
        refine w_cv rfl (by decide) mt_X11_moves v_tyC rfl rfl rfl (Nat.le_of_ble_eq_true rfl) (Nat.le_of_ble_eq_true rfl) (Nat.le_of_ble_eq_true rfl) ?_
        show w_T L xs _ m_X11_moves 0 (lv_args 0 [.ref 1, .int (xs ((Int32.ofInt (i : Int)) + (Int32.ofInt 1)).toInt.toNat), .int (xs ((Int32.ofInt (i : Int)) + (Int32.ofInt 2)).toInt.toNat)]) [] S R _
        refine b_X11_moves _ _ hT hO hK (fun S1 R1 hT1 hO1 hP1 => ?_)
        refine w_st rfl (fun _ => rfl) ?_
        refine w_st rfl (fun _ => rfl) ?_
        refine w_st rfl (fun _ => rfl) ?_
        refine w_st rfl (fun _ => rfl) ?_
        refine w_st rfl (fun _ => rfl) ?_
        refine w_st rfl (fun _ => rfl) ?_
        show w_T L xs 60 m_L_law 308 [(3, .int (Int32.ofInt (i : Int))), (2, .ref 100), (1, .ref 1), (0, .ref 0)] [.int ((Int32.ofInt (i : Int)) + (Int32.ofInt 1)), .ref 0, .ref 100] S1 R1 Q
        refine w_sld rfl (by first | (rw [← Int32.ofInt_add, q_ofr (by omega) (by omega)]; omega) | (rw [w_nat (by omega)]; omega)) (by first | (rw [← Int32.ofInt_add, q_ofr (by omega) (by omega)]; omega) | (rw [w_nat (by omega)]; omega)) ?_
        refine w_st rfl (fun _ => rfl) ?_
        refine w_st rfl (fun _ => rfl) ?_
        refine w_st rfl (fun _ => rfl) ?_
        refine w_st rfl (fun _ => rfl) ?_
        show w_T L xs 60 m_L_law 313 [(3, .int (Int32.ofInt (i : Int))), (2, .ref 100), (1, .ref 1), (0, .ref 0)] [.int ((Int32.ofInt (i : Int)) + (Int32.ofInt 2)), .ref 0, .int (xs ((Int32.ofInt (i : Int)) + (Int32.ofInt 1)).toInt.toNat), .ref 100] S1 R1 Q
        refine w_sld rfl (by first | (rw [← Int32.ofInt_add, q_ofr (by omega) (by omega)]; omega) | (rw [w_nat (by omega)]; omega)) (by first | (rw [← Int32.ofInt_add, q_ofr (by omega) (by omega)]; omega) | (rw [w_nat (by omega)]; omega)) ?_
        show w_T L xs 60 m_L_law 314 [(3, .int (Int32.ofInt (i : Int))), (2, .ref 100), (1, .ref 1), (0, .ref 0)] [.int (xs ((Int32.ofInt (i : Int)) + (Int32.ofInt 2)).toInt.toNat), .int (xs ((Int32.ofInt (i : Int)) + (Int32.ofInt 1)).toInt.toNat), .ref 100] S1 R1 Q
        refine w_cv rfl (by decide) mt_X12_moves v_tyM rfl rfl rfl (Nat.le_of_ble_eq_true rfl) (Nat.le_of_ble_eq_true rfl) (Nat.le_of_ble_eq_true rfl) ?_
        show w_T L xs _ m_X12_moves 0 (lv_args 0 [.ref 100, .int (xs ((Int32.ofInt (i : Int)) + (Int32.ofInt 1)).toInt.toNat), .int (xs ((Int32.ofInt (i : Int)) + (Int32.ofInt 2)).toInt.toNat)]) [] S1 R1 _
        refine b_X12_moves _ _ hT1 hO1 hP1 (fun S2 R2 hT2 hO2 hK2 => ?_)
        refine w_st rfl (fun _ => rfl) ?_
        refine w_st rfl (fun _ => rfl) ?_
        show w_T L xs 60 m_L_law 1446 [(3, .int (Int32.ofInt (i : Int))), (2, .ref 100), (1, .ref 1), (0, .ref 0)] [] S2 R2 Q
        exact tail S2 R2 hT2 hO2 hK2
      | 3, hk =>
        obtain rfl : (288 : Int) = o := Option.some.inj hk
        refine ⟨321, by decide, ?_⟩
        refine w_st rfl (fun _ => rfl) ?_
        refine w_st rfl (fun _ => rfl) ?_
        refine w_st rfl (fun _ => rfl) ?_
        refine w_st rfl (fun _ => rfl) ?_
        refine w_st rfl (fun _ => rfl) ?_
        show w_T L xs 60 m_L_law 326 [(3, .int (Int32.ofInt (i : Int))), (2, .ref 100), (1, .ref 1), (0, .ref 0)] [.int ((Int32.ofInt (i : Int)) + (Int32.ofInt 1)), .ref 0, .ref 1] S R Q
        refine w_sld rfl (by first | (rw [← Int32.ofInt_add, q_ofr (by omega) (by omega)]; omega) | (rw [w_nat (by omega)]; omega)) (by first | (rw [← Int32.ofInt_add, q_ofr (by omega) (by omega)]; omega) | (rw [w_nat (by omega)]; omega)) ?_
        refine w_st rfl (fun _ => rfl) ?_
        refine w_st rfl (fun _ => rfl) ?_
        refine w_st rfl (fun _ => rfl) ?_
        refine w_st rfl (fun _ => rfl) ?_
        show w_T L xs 60 m_L_law 331 [(3, .int (Int32.ofInt (i : Int))), (2, .ref 100), (1, .ref 1), (0, .ref 0)] [.int ((Int32.ofInt (i : Int)) + (Int32.ofInt 2)), .ref 0, .int (xs ((Int32.ofInt (i : Int)) + (Int32.ofInt 1)).toInt.toNat), .ref 1] S R Q
        refine w_sld rfl (by first | (rw [← Int32.ofInt_add, q_ofr (by omega) (by omega)]; omega) | (rw [w_nat (by omega)]; omega)) (by first | (rw [← Int32.ofInt_add, q_ofr (by omega) (by omega)]; omega) | (rw [w_nat (by omega)]; omega)) ?_
        refine w_st rfl (fun _ => rfl) ?_
        refine w_st rfl (fun _ => rfl) ?_
        refine w_st rfl (fun _ => rfl) ?_
        refine w_st rfl (fun _ => rfl) ?_
        show w_T L xs 60 m_L_law 336 [(3, .int (Int32.ofInt (i : Int))), (2, .ref 100), (1, .ref 1), (0, .ref 0)] [.int ((Int32.ofInt (i : Int)) + (Int32.ofInt 3)), .ref 0, .int (xs ((Int32.ofInt (i : Int)) + (Int32.ofInt 2)).toInt.toNat), .int (xs ((Int32.ofInt (i : Int)) + (Int32.ofInt 1)).toInt.toNat), .ref 1] S R Q
        refine w_sld rfl (by first | (rw [← Int32.ofInt_add, q_ofr (by omega) (by omega)]; omega) | (rw [w_nat (by omega)]; omega)) (by first | (rw [← Int32.ofInt_add, q_ofr (by omega) (by omega)]; omega) | (rw [w_nat (by omega)]; omega)) ?_
        show w_T L xs 60 m_L_law 337 [(3, .int (Int32.ofInt (i : Int))), (2, .ref 100), (1, .ref 1), (0, .ref 0)] [.int (xs ((Int32.ofInt (i : Int)) + (Int32.ofInt 3)).toInt.toNat), .int (xs ((Int32.ofInt (i : Int)) + (Int32.ofInt 2)).toInt.toNat), .int (xs ((Int32.ofInt (i : Int)) + (Int32.ofInt 1)).toInt.toNat), .ref 1] S R Q
        refine w_br (P := (xs ((Int32.ofInt (i : Int)) + (Int32.ofInt 3)).toInt.toNat) = 0) rfl (fun _ => rfl) (fun h337 => ?_) (fun h337 => ?_)
        · refine w_st rfl (fun _ => rfl) ?_
          show w_T L xs 60 m_L_law 345 [(3, .int (Int32.ofInt (i : Int))), (2, .ref 100), (1, .ref 1), (0, .ref 0)] [.int (Int32.ofInt 0), .int (xs ((Int32.ofInt (i : Int)) + (Int32.ofInt 2)).toInt.toNat), .int (xs ((Int32.ofInt (i : Int)) + (Int32.ofInt 1)).toInt.toNat), .ref 1] S R Q
          refine w_cv rfl (by decide) mt_X11_habit v_tyC rfl rfl rfl (Nat.le_of_ble_eq_true rfl) (Nat.le_of_ble_eq_true rfl) (Nat.le_of_ble_eq_true rfl) ?_
          show w_T L xs _ m_X11_habit 0 (lv_args 0 [.ref 1, .int (xs ((Int32.ofInt (i : Int)) + (Int32.ofInt 1)).toInt.toNat), .int (xs ((Int32.ofInt (i : Int)) + (Int32.ofInt 2)).toInt.toNat), .int (Int32.ofInt 0)]) [] S R _
          refine b_X11_habit _ _ _ (by decide) (by decide) hT hO hK (fun S1 R1 hT1 hO1 hP1 => ?_)
          refine w_st rfl (fun _ => rfl) ?_
          refine w_st rfl (fun _ => rfl) ?_
          refine w_st rfl (fun _ => rfl) ?_
          refine w_st rfl (fun _ => rfl) ?_
          refine w_st rfl (fun _ => rfl) ?_
          refine w_st rfl (fun _ => rfl) ?_
          show w_T L xs 60 m_L_law 354 [(3, .int (Int32.ofInt (i : Int))), (2, .ref 100), (1, .ref 1), (0, .ref 0)] [.int ((Int32.ofInt (i : Int)) + (Int32.ofInt 1)), .ref 0, .ref 100] S1 R1 Q
          refine w_sld rfl (by first | (rw [← Int32.ofInt_add, q_ofr (by omega) (by omega)]; omega) | (rw [w_nat (by omega)]; omega)) (by first | (rw [← Int32.ofInt_add, q_ofr (by omega) (by omega)]; omega) | (rw [w_nat (by omega)]; omega)) ?_
          refine w_st rfl (fun _ => rfl) ?_
          refine w_st rfl (fun _ => rfl) ?_
          refine w_st rfl (fun _ => rfl) ?_
          refine w_st rfl (fun _ => rfl) ?_
          show w_T L xs 60 m_L_law 359 [(3, .int (Int32.ofInt (i : Int))), (2, .ref 100), (1, .ref 1), (0, .ref 0)] [.int ((Int32.ofInt (i : Int)) + (Int32.ofInt 2)), .ref 0, .int (xs ((Int32.ofInt (i : Int)) + (Int32.ofInt 1)).toInt.toNat), .ref 100] S1 R1 Q
          refine w_sld rfl (by first | (rw [← Int32.ofInt_add, q_ofr (by omega) (by omega)]; omega) | (rw [w_nat (by omega)]; omega)) (by first | (rw [← Int32.ofInt_add, q_ofr (by omega) (by omega)]; omega) | (rw [w_nat (by omega)]; omega)) ?_
          refine w_st rfl (fun _ => rfl) ?_
          refine w_st rfl (fun _ => rfl) ?_
          refine w_st rfl (fun _ => rfl) ?_
          refine w_st rfl (fun _ => rfl) ?_
          show w_T L xs 60 m_L_law 364 [(3, .int (Int32.ofInt (i : Int))), (2, .ref 100), (1, .ref 1), (0, .ref 0)] [.int ((Int32.ofInt (i : Int)) + (Int32.ofInt 3)), .ref 0, .int (xs ((Int32.ofInt (i : Int)) + (Int32.ofInt 2)).toInt.toNat), .int (xs ((Int32.ofInt (i : Int)) + (Int32.ofInt 1)).toInt.toNat), .ref 100] S1 R1 Q
          refine w_sld rfl (by first | (rw [← Int32.ofInt_add, q_ofr (by omega) (by omega)]; omega) | (rw [w_nat (by omega)]; omega)) (by first | (rw [← Int32.ofInt_add, q_ofr (by omega) (by omega)]; omega) | (rw [w_nat (by omega)]; omega)) ?_
          show w_T L xs 60 m_L_law 365 [(3, .int (Int32.ofInt (i : Int))), (2, .ref 100), (1, .ref 1), (0, .ref 0)] [.int (xs ((Int32.ofInt (i : Int)) + (Int32.ofInt 3)).toInt.toNat), .int (xs ((Int32.ofInt (i : Int)) + (Int32.ofInt 2)).toInt.toNat), .int (xs ((Int32.ofInt (i : Int)) + (Int32.ofInt 1)).toInt.toNat), .ref 100] S1 R1 Q
          refine w_br (P := (xs ((Int32.ofInt (i : Int)) + (Int32.ofInt 3)).toInt.toNat) = 0) rfl (fun _ => rfl) (fun h365 => ?_) (fun h365 => ?_)
          · refine w_st rfl (fun _ => rfl) ?_
            show w_T L xs 60 m_L_law 373 [(3, .int (Int32.ofInt (i : Int))), (2, .ref 100), (1, .ref 1), (0, .ref 0)] [.int (Int32.ofInt 0), .int (xs ((Int32.ofInt (i : Int)) + (Int32.ofInt 2)).toInt.toNat), .int (xs ((Int32.ofInt (i : Int)) + (Int32.ofInt 1)).toInt.toNat), .ref 100] S1 R1 Q
            refine w_cv rfl (by decide) mt_X12_habit v_tyM rfl rfl rfl (Nat.le_of_ble_eq_true rfl) (Nat.le_of_ble_eq_true rfl) (Nat.le_of_ble_eq_true rfl) ?_
            show w_T L xs _ m_X12_habit 0 (lv_args 0 [.ref 100, .int (xs ((Int32.ofInt (i : Int)) + (Int32.ofInt 1)).toInt.toNat), .int (xs ((Int32.ofInt (i : Int)) + (Int32.ofInt 2)).toInt.toNat), .int (Int32.ofInt 0)]) [] S1 R1 _
            refine b_X12_habit _ _ _ (by decide) (by decide) hT1 hO1 hP1 (fun S2 R2 hT2 hO2 hK2 => ?_)
            refine w_st rfl (fun _ => rfl) ?_
            refine w_st rfl (fun _ => rfl) ?_
            show w_T L xs 60 m_L_law 1446 [(3, .int (Int32.ofInt (i : Int))), (2, .ref 100), (1, .ref 1), (0, .ref 0)] [] S2 R2 Q
            exact tail S2 R2 hT2 hO2 hK2
          · refine w_st rfl (fun _ => rfl) ?_
            refine w_st rfl (fun _ => rfl) ?_
            show w_T L xs 60 m_L_law 373 [(3, .int (Int32.ofInt (i : Int))), (2, .ref 100), (1, .ref 1), (0, .ref 0)] [.int (Int32.ofInt 1), .int (xs ((Int32.ofInt (i : Int)) + (Int32.ofInt 2)).toInt.toNat), .int (xs ((Int32.ofInt (i : Int)) + (Int32.ofInt 1)).toInt.toNat), .ref 100] S1 R1 Q
            refine w_cv rfl (by decide) mt_X12_habit v_tyM rfl rfl rfl (Nat.le_of_ble_eq_true rfl) (Nat.le_of_ble_eq_true rfl) (Nat.le_of_ble_eq_true rfl) ?_
            show w_T L xs _ m_X12_habit 0 (lv_args 0 [.ref 100, .int (xs ((Int32.ofInt (i : Int)) + (Int32.ofInt 1)).toInt.toNat), .int (xs ((Int32.ofInt (i : Int)) + (Int32.ofInt 2)).toInt.toNat), .int (Int32.ofInt 1)]) [] S1 R1 _
            first | exact absurd h337 h365 | exact absurd h365 h337
        · refine w_st rfl (fun _ => rfl) ?_
          refine w_st rfl (fun _ => rfl) ?_
          show w_T L xs 60 m_L_law 345 [(3, .int (Int32.ofInt (i : Int))), (2, .ref 100), (1, .ref 1), (0, .ref 0)] [.int (Int32.ofInt 1), .int (xs ((Int32.ofInt (i : Int)) + (Int32.ofInt 2)).toInt.toNat), .int (xs ((Int32.ofInt (i : Int)) + (Int32.ofInt 1)).toInt.toNat), .ref 1] S R Q
          refine w_cv rfl (by decide) mt_X11_habit v_tyC rfl rfl rfl (Nat.le_of_ble_eq_true rfl) (Nat.le_of_ble_eq_true rfl) (Nat.le_of_ble_eq_true rfl) ?_
          show w_T L xs _ m_X11_habit 0 (lv_args 0 [.ref 1, .int (xs ((Int32.ofInt (i : Int)) + (Int32.ofInt 1)).toInt.toNat), .int (xs ((Int32.ofInt (i : Int)) + (Int32.ofInt 2)).toInt.toNat), .int (Int32.ofInt 1)]) [] S R _
          refine b_X11_habit _ _ _ (by decide) (by decide) hT hO hK (fun S1 R1 hT1 hO1 hP1 => ?_)
          refine w_st rfl (fun _ => rfl) ?_
          refine w_st rfl (fun _ => rfl) ?_
          refine w_st rfl (fun _ => rfl) ?_
          refine w_st rfl (fun _ => rfl) ?_
          refine w_st rfl (fun _ => rfl) ?_
          refine w_st rfl (fun _ => rfl) ?_
          show w_T L xs 60 m_L_law 354 [(3, .int (Int32.ofInt (i : Int))), (2, .ref 100), (1, .ref 1), (0, .ref 0)] [.int ((Int32.ofInt (i : Int)) + (Int32.ofInt 1)), .ref 0, .ref 100] S1 R1 Q
          refine w_sld rfl (by first | (rw [← Int32.ofInt_add, q_ofr (by omega) (by omega)]; omega) | (rw [w_nat (by omega)]; omega)) (by first | (rw [← Int32.ofInt_add, q_ofr (by omega) (by omega)]; omega) | (rw [w_nat (by omega)]; omega)) ?_
          refine w_st rfl (fun _ => rfl) ?_
          refine w_st rfl (fun _ => rfl) ?_
          refine w_st rfl (fun _ => rfl) ?_
          refine w_st rfl (fun _ => rfl) ?_
          show w_T L xs 60 m_L_law 359 [(3, .int (Int32.ofInt (i : Int))), (2, .ref 100), (1, .ref 1), (0, .ref 0)] [.int ((Int32.ofInt (i : Int)) + (Int32.ofInt 2)), .ref 0, .int (xs ((Int32.ofInt (i : Int)) + (Int32.ofInt 1)).toInt.toNat), .ref 100] S1 R1 Q
          refine w_sld rfl (by first | (rw [← Int32.ofInt_add, q_ofr (by omega) (by omega)]; omega) | (rw [w_nat (by omega)]; omega)) (by first | (rw [← Int32.ofInt_add, q_ofr (by omega) (by omega)]; omega) | (rw [w_nat (by omega)]; omega)) ?_
          refine w_st rfl (fun _ => rfl) ?_
          refine w_st rfl (fun _ => rfl) ?_
          refine w_st rfl (fun _ => rfl) ?_
          refine w_st rfl (fun _ => rfl) ?_
          show w_T L xs 60 m_L_law 364 [(3, .int (Int32.ofInt (i : Int))), (2, .ref 100), (1, .ref 1), (0, .ref 0)] [.int ((Int32.ofInt (i : Int)) + (Int32.ofInt 3)), .ref 0, .int (xs ((Int32.ofInt (i : Int)) + (Int32.ofInt 2)).toInt.toNat), .int (xs ((Int32.ofInt (i : Int)) + (Int32.ofInt 1)).toInt.toNat), .ref 100] S1 R1 Q
          refine w_sld rfl (by first | (rw [← Int32.ofInt_add, q_ofr (by omega) (by omega)]; omega) | (rw [w_nat (by omega)]; omega)) (by first | (rw [← Int32.ofInt_add, q_ofr (by omega) (by omega)]; omega) | (rw [w_nat (by omega)]; omega)) ?_
          show w_T L xs 60 m_L_law 365 [(3, .int (Int32.ofInt (i : Int))), (2, .ref 100), (1, .ref 1), (0, .ref 0)] [.int (xs ((Int32.ofInt (i : Int)) + (Int32.ofInt 3)).toInt.toNat), .int (xs ((Int32.ofInt (i : Int)) + (Int32.ofInt 2)).toInt.toNat), .int (xs ((Int32.ofInt (i : Int)) + (Int32.ofInt 1)).toInt.toNat), .ref 100] S1 R1 Q
          refine w_br (P := (xs ((Int32.ofInt (i : Int)) + (Int32.ofInt 3)).toInt.toNat) = 0) rfl (fun _ => rfl) (fun h365 => ?_) (fun h365 => ?_)
          · refine w_st rfl (fun _ => rfl) ?_
            show w_T L xs 60 m_L_law 373 [(3, .int (Int32.ofInt (i : Int))), (2, .ref 100), (1, .ref 1), (0, .ref 0)] [.int (Int32.ofInt 0), .int (xs ((Int32.ofInt (i : Int)) + (Int32.ofInt 2)).toInt.toNat), .int (xs ((Int32.ofInt (i : Int)) + (Int32.ofInt 1)).toInt.toNat), .ref 100] S1 R1 Q
            refine w_cv rfl (by decide) mt_X12_habit v_tyM rfl rfl rfl (Nat.le_of_ble_eq_true rfl) (Nat.le_of_ble_eq_true rfl) (Nat.le_of_ble_eq_true rfl) ?_
            show w_T L xs _ m_X12_habit 0 (lv_args 0 [.ref 100, .int (xs ((Int32.ofInt (i : Int)) + (Int32.ofInt 1)).toInt.toNat), .int (xs ((Int32.ofInt (i : Int)) + (Int32.ofInt 2)).toInt.toNat), .int (Int32.ofInt 0)]) [] S1 R1 _
            first | exact absurd h337 h365 | exact absurd h365 h337
          · refine w_st rfl (fun _ => rfl) ?_
            refine w_st rfl (fun _ => rfl) ?_
            show w_T L xs 60 m_L_law 373 [(3, .int (Int32.ofInt (i : Int))), (2, .ref 100), (1, .ref 1), (0, .ref 0)] [.int (Int32.ofInt 1), .int (xs ((Int32.ofInt (i : Int)) + (Int32.ofInt 2)).toInt.toNat), .int (xs ((Int32.ofInt (i : Int)) + (Int32.ofInt 1)).toInt.toNat), .ref 100] S1 R1 Q
            refine w_cv rfl (by decide) mt_X12_habit v_tyM rfl rfl rfl (Nat.le_of_ble_eq_true rfl) (Nat.le_of_ble_eq_true rfl) (Nat.le_of_ble_eq_true rfl) ?_
            show w_T L xs _ m_X12_habit 0 (lv_args 0 [.ref 100, .int (xs ((Int32.ofInt (i : Int)) + (Int32.ofInt 1)).toInt.toNat), .int (xs ((Int32.ofInt (i : Int)) + (Int32.ofInt 2)).toInt.toNat), .int (Int32.ofInt 1)]) [] S1 R1 _
            refine b_X12_habit _ _ _ (by decide) (by decide) hT1 hO1 hP1 (fun S2 R2 hT2 hO2 hK2 => ?_)
            refine w_st rfl (fun _ => rfl) ?_
            refine w_st rfl (fun _ => rfl) ?_
            show w_T L xs 60 m_L_law 1446 [(3, .int (Int32.ofInt (i : Int))), (2, .ref 100), (1, .ref 1), (0, .ref 0)] [] S2 R2 Q
            exact tail S2 R2 hT2 hO2 hK2
      | 4, hk =>
        obtain rfl : (347 : Int) = o := Option.some.inj hk
        refine ⟨380, by decide, ?_⟩
        refine w_st rfl (fun _ => rfl) ?_
        refine w_st rfl (fun _ => rfl) ?_
        refine w_st rfl (fun _ => rfl) ?_
        refine w_st rfl (fun _ => rfl) ?_
        refine w_st rfl (fun _ => rfl) ?_
        show w_T L xs 60 m_L_law 385 [(3, .int (Int32.ofInt (i : Int))), (2, .ref 100), (1, .ref 1), (0, .ref 0)] [.int ((Int32.ofInt (i : Int)) + (Int32.ofInt 1)), .ref 0, .ref 1] S R Q
        refine w_sld rfl (by first | (rw [← Int32.ofInt_add, q_ofr (by omega) (by omega)]; omega) | (rw [w_nat (by omega)]; omega)) (by first | (rw [← Int32.ofInt_add, q_ofr (by omega) (by omega)]; omega) | (rw [w_nat (by omega)]; omega)) ?_
        refine w_st rfl (fun _ => rfl) ?_
        refine w_st rfl (fun _ => rfl) ?_
        refine w_st rfl (fun _ => rfl) ?_
        refine w_st rfl (fun _ => rfl) ?_
        show w_T L xs 60 m_L_law 390 [(3, .int (Int32.ofInt (i : Int))), (2, .ref 100), (1, .ref 1), (0, .ref 0)] [.int ((Int32.ofInt (i : Int)) + (Int32.ofInt 2)), .ref 0, .int (xs ((Int32.ofInt (i : Int)) + (Int32.ofInt 1)).toInt.toNat), .ref 1] S R Q
        refine w_sld rfl (by first | (rw [← Int32.ofInt_add, q_ofr (by omega) (by omega)]; omega) | (rw [w_nat (by omega)]; omega)) (by first | (rw [← Int32.ofInt_add, q_ofr (by omega) (by omega)]; omega) | (rw [w_nat (by omega)]; omega)) ?_
        refine w_st rfl (fun _ => rfl) ?_
        refine w_st rfl (fun _ => rfl) ?_
        refine w_st rfl (fun _ => rfl) ?_
        refine w_st rfl (fun _ => rfl) ?_
        show w_T L xs 60 m_L_law 395 [(3, .int (Int32.ofInt (i : Int))), (2, .ref 100), (1, .ref 1), (0, .ref 0)] [.int ((Int32.ofInt (i : Int)) + (Int32.ofInt 3)), .ref 0, .int (xs ((Int32.ofInt (i : Int)) + (Int32.ofInt 2)).toInt.toNat), .int (xs ((Int32.ofInt (i : Int)) + (Int32.ofInt 1)).toInt.toNat), .ref 1] S R Q
        refine w_sld rfl (by first | (rw [← Int32.ofInt_add, q_ofr (by omega) (by omega)]; omega) | (rw [w_nat (by omega)]; omega)) (by first | (rw [← Int32.ofInt_add, q_ofr (by omega) (by omega)]; omega) | (rw [w_nat (by omega)]; omega)) ?_
        refine w_st rfl (fun _ => rfl) ?_
        refine w_st rfl (fun _ => rfl) ?_
        refine w_st rfl (fun _ => rfl) ?_
        refine w_st rfl (fun _ => rfl) ?_
        show w_T L xs 60 m_L_law 400 [(3, .int (Int32.ofInt (i : Int))), (2, .ref 100), (1, .ref 1), (0, .ref 0)] [.int ((Int32.ofInt (i : Int)) + (Int32.ofInt 4)), .ref 0, .int (xs ((Int32.ofInt (i : Int)) + (Int32.ofInt 3)).toInt.toNat), .int (xs ((Int32.ofInt (i : Int)) + (Int32.ofInt 2)).toInt.toNat), .int (xs ((Int32.ofInt (i : Int)) + (Int32.ofInt 1)).toInt.toNat), .ref 1] S R Q
        refine w_sld rfl (by first | (rw [← Int32.ofInt_add, q_ofr (by omega) (by omega)]; omega) | (rw [w_nat (by omega)]; omega)) (by first | (rw [← Int32.ofInt_add, q_ofr (by omega) (by omega)]; omega) | (rw [w_nat (by omega)]; omega)) ?_
        show w_T L xs 60 m_L_law 401 [(3, .int (Int32.ofInt (i : Int))), (2, .ref 100), (1, .ref 1), (0, .ref 0)] [.int (xs ((Int32.ofInt (i : Int)) + (Int32.ofInt 4)).toInt.toNat), .int (xs ((Int32.ofInt (i : Int)) + (Int32.ofInt 3)).toInt.toNat), .int (xs ((Int32.ofInt (i : Int)) + (Int32.ofInt 2)).toInt.toNat), .int (xs ((Int32.ofInt (i : Int)) + (Int32.ofInt 1)).toInt.toNat), .ref 1] S R Q
        refine w_cv rfl (by decide) mt_X11_ward v_tyC rfl rfl rfl (Nat.le_of_ble_eq_true rfl) (Nat.le_of_ble_eq_true rfl) (Nat.le_of_ble_eq_true rfl) ?_
        show w_T L xs _ m_X11_ward 0 (lv_args 0 [.ref 1, .int (xs ((Int32.ofInt (i : Int)) + (Int32.ofInt 1)).toInt.toNat), .int (xs ((Int32.ofInt (i : Int)) + (Int32.ofInt 2)).toInt.toNat), .int (xs ((Int32.ofInt (i : Int)) + (Int32.ofInt 3)).toInt.toNat), .int (xs ((Int32.ofInt (i : Int)) + (Int32.ofInt 4)).toInt.toNat)]) [] S R _
        refine b_X11_ward _ _ _ _ hT hO hK (fun S1 R1 hT1 hO1 hP1 => ?_)
        refine w_st rfl (fun _ => rfl) ?_
        refine w_st rfl (fun _ => rfl) ?_
        refine w_st rfl (fun _ => rfl) ?_
        refine w_st rfl (fun _ => rfl) ?_
        refine w_st rfl (fun _ => rfl) ?_
        refine w_st rfl (fun _ => rfl) ?_
        show w_T L xs 60 m_L_law 410 [(3, .int (Int32.ofInt (i : Int))), (2, .ref 100), (1, .ref 1), (0, .ref 0)] [.int ((Int32.ofInt (i : Int)) + (Int32.ofInt 1)), .ref 0, .ref 100] S1 R1 Q
        refine w_sld rfl (by first | (rw [← Int32.ofInt_add, q_ofr (by omega) (by omega)]; omega) | (rw [w_nat (by omega)]; omega)) (by first | (rw [← Int32.ofInt_add, q_ofr (by omega) (by omega)]; omega) | (rw [w_nat (by omega)]; omega)) ?_
        refine w_st rfl (fun _ => rfl) ?_
        refine w_st rfl (fun _ => rfl) ?_
        refine w_st rfl (fun _ => rfl) ?_
        refine w_st rfl (fun _ => rfl) ?_
        show w_T L xs 60 m_L_law 415 [(3, .int (Int32.ofInt (i : Int))), (2, .ref 100), (1, .ref 1), (0, .ref 0)] [.int ((Int32.ofInt (i : Int)) + (Int32.ofInt 2)), .ref 0, .int (xs ((Int32.ofInt (i : Int)) + (Int32.ofInt 1)).toInt.toNat), .ref 100] S1 R1 Q
        refine w_sld rfl (by first | (rw [← Int32.ofInt_add, q_ofr (by omega) (by omega)]; omega) | (rw [w_nat (by omega)]; omega)) (by first | (rw [← Int32.ofInt_add, q_ofr (by omega) (by omega)]; omega) | (rw [w_nat (by omega)]; omega)) ?_
        refine w_st rfl (fun _ => rfl) ?_
        refine w_st rfl (fun _ => rfl) ?_
        refine w_st rfl (fun _ => rfl) ?_
        refine w_st rfl (fun _ => rfl) ?_
        show w_T L xs 60 m_L_law 420 [(3, .int (Int32.ofInt (i : Int))), (2, .ref 100), (1, .ref 1), (0, .ref 0)] [.int ((Int32.ofInt (i : Int)) + (Int32.ofInt 3)), .ref 0, .int (xs ((Int32.ofInt (i : Int)) + (Int32.ofInt 2)).toInt.toNat), .int (xs ((Int32.ofInt (i : Int)) + (Int32.ofInt 1)).toInt.toNat), .ref 100] S1 R1 Q
        refine w_sld rfl (by first | (rw [← Int32.ofInt_add, q_ofr (by omega) (by omega)]; omega) | (rw [w_nat (by omega)]; omega)) (by first | (rw [← Int32.ofInt_add, q_ofr (by omega) (by omega)]; omega) | (rw [w_nat (by omega)]; omega)) ?_
        refine w_st rfl (fun _ => rfl) ?_
        refine w_st rfl (fun _ => rfl) ?_
        refine w_st rfl (fun _ => rfl) ?_
        refine w_st rfl (fun _ => rfl) ?_
        show w_T L xs 60 m_L_law 425 [(3, .int (Int32.ofInt (i : Int))), (2, .ref 100), (1, .ref 1), (0, .ref 0)] [.int ((Int32.ofInt (i : Int)) + (Int32.ofInt 4)), .ref 0, .int (xs ((Int32.ofInt (i : Int)) + (Int32.ofInt 3)).toInt.toNat), .int (xs ((Int32.ofInt (i : Int)) + (Int32.ofInt 2)).toInt.toNat), .int (xs ((Int32.ofInt (i : Int)) + (Int32.ofInt 1)).toInt.toNat), .ref 100] S1 R1 Q
        refine w_sld rfl (by first | (rw [← Int32.ofInt_add, q_ofr (by omega) (by omega)]; omega) | (rw [w_nat (by omega)]; omega)) (by first | (rw [← Int32.ofInt_add, q_ofr (by omega) (by omega)]; omega) | (rw [w_nat (by omega)]; omega)) ?_
        show w_T L xs 60 m_L_law 426 [(3, .int (Int32.ofInt (i : Int))), (2, .ref 100), (1, .ref 1), (0, .ref 0)] [.int (xs ((Int32.ofInt (i : Int)) + (Int32.ofInt 4)).toInt.toNat), .int (xs ((Int32.ofInt (i : Int)) + (Int32.ofInt 3)).toInt.toNat), .int (xs ((Int32.ofInt (i : Int)) + (Int32.ofInt 2)).toInt.toNat), .int (xs ((Int32.ofInt (i : Int)) + (Int32.ofInt 1)).toInt.toNat), .ref 100] S1 R1 Q
        refine w_cv rfl (by decide) mt_X12_ward v_tyM rfl rfl rfl (Nat.le_of_ble_eq_true rfl) (Nat.le_of_ble_eq_true rfl) (Nat.le_of_ble_eq_true rfl) ?_
        show w_T L xs _ m_X12_ward 0 (lv_args 0 [.ref 100, .int (xs ((Int32.ofInt (i : Int)) + (Int32.ofInt 1)).toInt.toNat), .int (xs ((Int32.ofInt (i : Int)) + (Int32.ofInt 2)).toInt.toNat), .int (xs ((Int32.ofInt (i : Int)) + (Int32.ofInt 3)).toInt.toNat), .int (xs ((Int32.ofInt (i : Int)) + (Int32.ofInt 4)).toInt.toNat)]) [] S1 R1 _
        refine b_X12_ward _ _ _ _ hT1 hO1 hP1 (fun S2 R2 hT2 hO2 hK2 => ?_)
        refine w_st rfl (fun _ => rfl) ?_
        refine w_st rfl (fun _ => rfl) ?_
        show w_T L xs 60 m_L_law 1446 [(3, .int (Int32.ofInt (i : Int))), (2, .ref 100), (1, .ref 1), (0, .ref 0)] [] S2 R2 Q
        exact tail S2 R2 hT2 hO2 hK2
      | 5, hk =>
        obtain rfl : (400 : Int) = o := Option.some.inj hk
        refine ⟨433, by decide, ?_⟩
        refine w_st rfl (fun _ => rfl) ?_
        refine w_st rfl (fun _ => rfl) ?_
        refine w_st rfl (fun _ => rfl) ?_
        refine w_st rfl (fun _ => rfl) ?_
        refine w_st rfl (fun _ => rfl) ?_
        show w_T L xs 60 m_L_law 438 [(3, .int (Int32.ofInt (i : Int))), (2, .ref 100), (1, .ref 1), (0, .ref 0)] [.int ((Int32.ofInt (i : Int)) + (Int32.ofInt 1)), .ref 0, .ref 1] S R Q
        refine w_sld rfl (by first | (rw [← Int32.ofInt_add, q_ofr (by omega) (by omega)]; omega) | (rw [w_nat (by omega)]; omega)) (by first | (rw [← Int32.ofInt_add, q_ofr (by omega) (by omega)]; omega) | (rw [w_nat (by omega)]; omega)) ?_
        refine w_st rfl (fun _ => rfl) ?_
        refine w_st rfl (fun _ => rfl) ?_
        refine w_st rfl (fun _ => rfl) ?_
        refine w_st rfl (fun _ => rfl) ?_
        show w_T L xs 60 m_L_law 443 [(3, .int (Int32.ofInt (i : Int))), (2, .ref 100), (1, .ref 1), (0, .ref 0)] [.int ((Int32.ofInt (i : Int)) + (Int32.ofInt 2)), .ref 0, .int (xs ((Int32.ofInt (i : Int)) + (Int32.ofInt 1)).toInt.toNat), .ref 1] S R Q
        refine w_sld rfl (by first | (rw [← Int32.ofInt_add, q_ofr (by omega) (by omega)]; omega) | (rw [w_nat (by omega)]; omega)) (by first | (rw [← Int32.ofInt_add, q_ofr (by omega) (by omega)]; omega) | (rw [w_nat (by omega)]; omega)) ?_
        show w_T L xs 60 m_L_law 444 [(3, .int (Int32.ofInt (i : Int))), (2, .ref 100), (1, .ref 1), (0, .ref 0)] [.int (xs ((Int32.ofInt (i : Int)) + (Int32.ofInt 2)).toInt.toNat), .int (xs ((Int32.ofInt (i : Int)) + (Int32.ofInt 1)).toInt.toNat), .ref 1] S R Q
        refine w_cv rfl (by decide) mt_X11_nurse v_tyC rfl rfl rfl (Nat.le_of_ble_eq_true rfl) (Nat.le_of_ble_eq_true rfl) (Nat.le_of_ble_eq_true rfl) ?_
        show w_T L xs _ m_X11_nurse 0 (lv_args 0 [.ref 1, .int (xs ((Int32.ofInt (i : Int)) + (Int32.ofInt 1)).toInt.toNat), .int (xs ((Int32.ofInt (i : Int)) + (Int32.ofInt 2)).toInt.toNat)]) [] S R _
        refine b_X11_nurse _ _ hT hO hK (fun S1 R1 hT1 hO1 hP1 => ?_)
        refine w_st rfl (fun _ => rfl) ?_
        refine w_st rfl (fun _ => rfl) ?_
        refine w_st rfl (fun _ => rfl) ?_
        refine w_st rfl (fun _ => rfl) ?_
        refine w_st rfl (fun _ => rfl) ?_
        refine w_st rfl (fun _ => rfl) ?_
        show w_T L xs 60 m_L_law 453 [(3, .int (Int32.ofInt (i : Int))), (2, .ref 100), (1, .ref 1), (0, .ref 0)] [.int ((Int32.ofInt (i : Int)) + (Int32.ofInt 1)), .ref 0, .ref 100] S1 R1 Q
        refine w_sld rfl (by first | (rw [← Int32.ofInt_add, q_ofr (by omega) (by omega)]; omega) | (rw [w_nat (by omega)]; omega)) (by first | (rw [← Int32.ofInt_add, q_ofr (by omega) (by omega)]; omega) | (rw [w_nat (by omega)]; omega)) ?_
        refine w_st rfl (fun _ => rfl) ?_
        refine w_st rfl (fun _ => rfl) ?_
        refine w_st rfl (fun _ => rfl) ?_
        refine w_st rfl (fun _ => rfl) ?_
        show w_T L xs 60 m_L_law 458 [(3, .int (Int32.ofInt (i : Int))), (2, .ref 100), (1, .ref 1), (0, .ref 0)] [.int ((Int32.ofInt (i : Int)) + (Int32.ofInt 2)), .ref 0, .int (xs ((Int32.ofInt (i : Int)) + (Int32.ofInt 1)).toInt.toNat), .ref 100] S1 R1 Q
        refine w_sld rfl (by first | (rw [← Int32.ofInt_add, q_ofr (by omega) (by omega)]; omega) | (rw [w_nat (by omega)]; omega)) (by first | (rw [← Int32.ofInt_add, q_ofr (by omega) (by omega)]; omega) | (rw [w_nat (by omega)]; omega)) ?_
        show w_T L xs 60 m_L_law 459 [(3, .int (Int32.ofInt (i : Int))), (2, .ref 100), (1, .ref 1), (0, .ref 0)] [.int (xs ((Int32.ofInt (i : Int)) + (Int32.ofInt 2)).toInt.toNat), .int (xs ((Int32.ofInt (i : Int)) + (Int32.ofInt 1)).toInt.toNat), .ref 100] S1 R1 Q
        refine w_cv rfl (by decide) mt_X12_nurse v_tyM rfl rfl rfl (Nat.le_of_ble_eq_true rfl) (Nat.le_of_ble_eq_true rfl) (Nat.le_of_ble_eq_true rfl) ?_
        show w_T L xs _ m_X12_nurse 0 (lv_args 0 [.ref 100, .int (xs ((Int32.ofInt (i : Int)) + (Int32.ofInt 1)).toInt.toNat), .int (xs ((Int32.ofInt (i : Int)) + (Int32.ofInt 2)).toInt.toNat)]) [] S1 R1 _
        refine b_X12_nurse _ _ hT1 hO1 hP1 (fun S2 R2 hT2 hO2 hK2 => ?_)
        refine w_st rfl (fun _ => rfl) ?_
        refine w_st rfl (fun _ => rfl) ?_
        show w_T L xs 60 m_L_law 1446 [(3, .int (Int32.ofInt (i : Int))), (2, .ref 100), (1, .ref 1), (0, .ref 0)] [] S2 R2 Q
        exact tail S2 R2 hT2 hO2 hK2
      | 6, hk =>
        obtain rfl : (433 : Int) = o := Option.some.inj hk
        refine ⟨466, by decide, ?_⟩
        refine w_st rfl (fun _ => rfl) ?_
        refine w_st rfl (fun _ => rfl) ?_
        refine w_st rfl (fun _ => rfl) ?_
        refine w_st rfl (fun _ => rfl) ?_
        refine w_st rfl (fun _ => rfl) ?_
        show w_T L xs 60 m_L_law 471 [(3, .int (Int32.ofInt (i : Int))), (2, .ref 100), (1, .ref 1), (0, .ref 0)] [.int ((Int32.ofInt (i : Int)) + (Int32.ofInt 1)), .ref 0, .ref 1] S R Q
        refine w_sld rfl (by first | (rw [← Int32.ofInt_add, q_ofr (by omega) (by omega)]; omega) | (rw [w_nat (by omega)]; omega)) (by first | (rw [← Int32.ofInt_add, q_ofr (by omega) (by omega)]; omega) | (rw [w_nat (by omega)]; omega)) ?_
        refine w_st rfl (fun _ => rfl) ?_
        refine w_st rfl (fun _ => rfl) ?_
        refine w_st rfl (fun _ => rfl) ?_
        refine w_st rfl (fun _ => rfl) ?_
        show w_T L xs 60 m_L_law 476 [(3, .int (Int32.ofInt (i : Int))), (2, .ref 100), (1, .ref 1), (0, .ref 0)] [.int ((Int32.ofInt (i : Int)) + (Int32.ofInt 2)), .ref 0, .int (xs ((Int32.ofInt (i : Int)) + (Int32.ofInt 1)).toInt.toNat), .ref 1] S R Q
        refine w_sld rfl (by first | (rw [← Int32.ofInt_add, q_ofr (by omega) (by omega)]; omega) | (rw [w_nat (by omega)]; omega)) (by first | (rw [← Int32.ofInt_add, q_ofr (by omega) (by omega)]; omega) | (rw [w_nat (by omega)]; omega)) ?_
        show w_T L xs 60 m_L_law 477 [(3, .int (Int32.ofInt (i : Int))), (2, .ref 100), (1, .ref 1), (0, .ref 0)] [.int (xs ((Int32.ofInt (i : Int)) + (Int32.ofInt 2)).toInt.toNat), .int (xs ((Int32.ofInt (i : Int)) + (Int32.ofInt 1)).toInt.toNat), .ref 1] S R Q
        refine w_cv rfl (by decide) mt_X11_needs v_tyC rfl rfl rfl (Nat.le_of_ble_eq_true rfl) (Nat.le_of_ble_eq_true rfl) (Nat.le_of_ble_eq_true rfl) ?_
        show w_T L xs _ m_X11_needs 0 (lv_args 0 [.ref 1, .int (xs ((Int32.ofInt (i : Int)) + (Int32.ofInt 1)).toInt.toNat), .int (xs ((Int32.ofInt (i : Int)) + (Int32.ofInt 2)).toInt.toNat)]) [] S R _
        refine b_X11_needs _ _ hT hO hK (fun S1 R1 hT1 hO1 hP1 => ?_)
        refine w_st rfl (fun _ => rfl) ?_
        refine w_st rfl (fun _ => rfl) ?_
        refine w_st rfl (fun _ => rfl) ?_
        refine w_st rfl (fun _ => rfl) ?_
        refine w_st rfl (fun _ => rfl) ?_
        refine w_st rfl (fun _ => rfl) ?_
        show w_T L xs 60 m_L_law 486 [(3, .int (Int32.ofInt (i : Int))), (2, .ref 100), (1, .ref 1), (0, .ref 0)] [.int ((Int32.ofInt (i : Int)) + (Int32.ofInt 1)), .ref 0, .ref 100] S1 R1 Q
        refine w_sld rfl (by first | (rw [← Int32.ofInt_add, q_ofr (by omega) (by omega)]; omega) | (rw [w_nat (by omega)]; omega)) (by first | (rw [← Int32.ofInt_add, q_ofr (by omega) (by omega)]; omega) | (rw [w_nat (by omega)]; omega)) ?_
        refine w_st rfl (fun _ => rfl) ?_
        refine w_st rfl (fun _ => rfl) ?_
        refine w_st rfl (fun _ => rfl) ?_
        refine w_st rfl (fun _ => rfl) ?_
        show w_T L xs 60 m_L_law 491 [(3, .int (Int32.ofInt (i : Int))), (2, .ref 100), (1, .ref 1), (0, .ref 0)] [.int ((Int32.ofInt (i : Int)) + (Int32.ofInt 2)), .ref 0, .int (xs ((Int32.ofInt (i : Int)) + (Int32.ofInt 1)).toInt.toNat), .ref 100] S1 R1 Q
        refine w_sld rfl (by first | (rw [← Int32.ofInt_add, q_ofr (by omega) (by omega)]; omega) | (rw [w_nat (by omega)]; omega)) (by first | (rw [← Int32.ofInt_add, q_ofr (by omega) (by omega)]; omega) | (rw [w_nat (by omega)]; omega)) ?_
        show w_T L xs 60 m_L_law 492 [(3, .int (Int32.ofInt (i : Int))), (2, .ref 100), (1, .ref 1), (0, .ref 0)] [.int (xs ((Int32.ofInt (i : Int)) + (Int32.ofInt 2)).toInt.toNat), .int (xs ((Int32.ofInt (i : Int)) + (Int32.ofInt 1)).toInt.toNat), .ref 100] S1 R1 Q
        refine w_cv rfl (by decide) mt_X12_needs v_tyM rfl rfl rfl (Nat.le_of_ble_eq_true rfl) (Nat.le_of_ble_eq_true rfl) (Nat.le_of_ble_eq_true rfl) ?_
        show w_T L xs _ m_X12_needs 0 (lv_args 0 [.ref 100, .int (xs ((Int32.ofInt (i : Int)) + (Int32.ofInt 1)).toInt.toNat), .int (xs ((Int32.ofInt (i : Int)) + (Int32.ofInt 2)).toInt.toNat)]) [] S1 R1 _
        refine b_X12_needs _ _ hT1 hO1 hP1 (fun S2 R2 hT2 hO2 hK2 => ?_)
        refine w_st rfl (fun _ => rfl) ?_
        refine w_st rfl (fun _ => rfl) ?_
        show w_T L xs 60 m_L_law 1446 [(3, .int (Int32.ofInt (i : Int))), (2, .ref 100), (1, .ref 1), (0, .ref 0)] [] S2 R2 Q
        exact tail S2 R2 hT2 hO2 hK2
      | 7, hk =>
        obtain rfl : (466 : Int) = o := Option.some.inj hk
        refine ⟨499, by decide, ?_⟩
        refine w_st rfl (fun _ => rfl) ?_
        refine w_st rfl (fun _ => rfl) ?_
        refine w_st rfl (fun _ => rfl) ?_
        refine w_st rfl (fun _ => rfl) ?_
        refine w_st rfl (fun _ => rfl) ?_
        show w_T L xs 60 m_L_law 504 [(3, .int (Int32.ofInt (i : Int))), (2, .ref 100), (1, .ref 1), (0, .ref 0)] [.int ((Int32.ofInt (i : Int)) + (Int32.ofInt 1)), .ref 0, .ref 1] S R Q
        refine w_sld rfl (by first | (rw [← Int32.ofInt_add, q_ofr (by omega) (by omega)]; omega) | (rw [w_nat (by omega)]; omega)) (by first | (rw [← Int32.ofInt_add, q_ofr (by omega) (by omega)]; omega) | (rw [w_nat (by omega)]; omega)) ?_
        refine w_st rfl (fun _ => rfl) ?_
        refine w_st rfl (fun _ => rfl) ?_
        refine w_st rfl (fun _ => rfl) ?_
        refine w_st rfl (fun _ => rfl) ?_
        show w_T L xs 60 m_L_law 509 [(3, .int (Int32.ofInt (i : Int))), (2, .ref 100), (1, .ref 1), (0, .ref 0)] [.int ((Int32.ofInt (i : Int)) + (Int32.ofInt 2)), .ref 0, .int (xs ((Int32.ofInt (i : Int)) + (Int32.ofInt 1)).toInt.toNat), .ref 1] S R Q
        refine w_sld rfl (by first | (rw [← Int32.ofInt_add, q_ofr (by omega) (by omega)]; omega) | (rw [w_nat (by omega)]; omega)) (by first | (rw [← Int32.ofInt_add, q_ofr (by omega) (by omega)]; omega) | (rw [w_nat (by omega)]; omega)) ?_
        refine w_st rfl (fun _ => rfl) ?_
        refine w_st rfl (fun _ => rfl) ?_
        refine w_st rfl (fun _ => rfl) ?_
        refine w_st rfl (fun _ => rfl) ?_
        show w_T L xs 60 m_L_law 514 [(3, .int (Int32.ofInt (i : Int))), (2, .ref 100), (1, .ref 1), (0, .ref 0)] [.int ((Int32.ofInt (i : Int)) + (Int32.ofInt 3)), .ref 0, .int (xs ((Int32.ofInt (i : Int)) + (Int32.ofInt 2)).toInt.toNat), .int (xs ((Int32.ofInt (i : Int)) + (Int32.ofInt 1)).toInt.toNat), .ref 1] S R Q
        refine w_sld rfl (by first | (rw [← Int32.ofInt_add, q_ofr (by omega) (by omega)]; omega) | (rw [w_nat (by omega)]; omega)) (by first | (rw [← Int32.ofInt_add, q_ofr (by omega) (by omega)]; omega) | (rw [w_nat (by omega)]; omega)) ?_
        refine w_st rfl (fun _ => rfl) ?_
        refine w_st rfl (fun _ => rfl) ?_
        refine w_st rfl (fun _ => rfl) ?_
        refine w_st rfl (fun _ => rfl) ?_
        show w_T L xs 60 m_L_law 519 [(3, .int (Int32.ofInt (i : Int))), (2, .ref 100), (1, .ref 1), (0, .ref 0)] [.int ((Int32.ofInt (i : Int)) + (Int32.ofInt 4)), .ref 0, .int (xs ((Int32.ofInt (i : Int)) + (Int32.ofInt 3)).toInt.toNat), .int (xs ((Int32.ofInt (i : Int)) + (Int32.ofInt 2)).toInt.toNat), .int (xs ((Int32.ofInt (i : Int)) + (Int32.ofInt 1)).toInt.toNat), .ref 1] S R Q
        refine w_sld rfl (by first | (rw [← Int32.ofInt_add, q_ofr (by omega) (by omega)]; omega) | (rw [w_nat (by omega)]; omega)) (by first | (rw [← Int32.ofInt_add, q_ofr (by omega) (by omega)]; omega) | (rw [w_nat (by omega)]; omega)) ?_
        refine w_st rfl (fun _ => rfl) ?_
        refine w_st rfl (fun _ => rfl) ?_
        refine w_st rfl (fun _ => rfl) ?_
        refine w_st rfl (fun _ => rfl) ?_
        show w_T L xs 60 m_L_law 524 [(3, .int (Int32.ofInt (i : Int))), (2, .ref 100), (1, .ref 1), (0, .ref 0)] [.int ((Int32.ofInt (i : Int)) + (Int32.ofInt 5)), .ref 0, .int (xs ((Int32.ofInt (i : Int)) + (Int32.ofInt 4)).toInt.toNat), .int (xs ((Int32.ofInt (i : Int)) + (Int32.ofInt 3)).toInt.toNat), .int (xs ((Int32.ofInt (i : Int)) + (Int32.ofInt 2)).toInt.toNat), .int (xs ((Int32.ofInt (i : Int)) + (Int32.ofInt 1)).toInt.toNat), .ref 1] S R Q
        refine w_sld rfl (by first | (rw [← Int32.ofInt_add, q_ofr (by omega) (by omega)]; omega) | (rw [w_nat (by omega)]; omega)) (by first | (rw [← Int32.ofInt_add, q_ofr (by omega) (by omega)]; omega) | (rw [w_nat (by omega)]; omega)) ?_
        show w_T L xs 60 m_L_law 525 [(3, .int (Int32.ofInt (i : Int))), (2, .ref 100), (1, .ref 1), (0, .ref 0)] [.int (xs ((Int32.ofInt (i : Int)) + (Int32.ofInt 5)).toInt.toNat), .int (xs ((Int32.ofInt (i : Int)) + (Int32.ofInt 4)).toInt.toNat), .int (xs ((Int32.ofInt (i : Int)) + (Int32.ofInt 3)).toInt.toNat), .int (xs ((Int32.ofInt (i : Int)) + (Int32.ofInt 2)).toInt.toNat), .int (xs ((Int32.ofInt (i : Int)) + (Int32.ofInt 1)).toInt.toNat), .ref 1] S R Q
        refine w_cv rfl (by decide) mt_X11_feed v_tyC rfl rfl rfl (Nat.le_of_ble_eq_true rfl) (Nat.le_of_ble_eq_true rfl) (Nat.le_of_ble_eq_true rfl) ?_
        show w_T L xs _ m_X11_feed 0 (lv_args 0 [.ref 1, .int (xs ((Int32.ofInt (i : Int)) + (Int32.ofInt 1)).toInt.toNat), .int (xs ((Int32.ofInt (i : Int)) + (Int32.ofInt 2)).toInt.toNat), .int (xs ((Int32.ofInt (i : Int)) + (Int32.ofInt 3)).toInt.toNat), .int (xs ((Int32.ofInt (i : Int)) + (Int32.ofInt 4)).toInt.toNat), .int (xs ((Int32.ofInt (i : Int)) + (Int32.ofInt 5)).toInt.toNat)]) [] S R _
        refine b_X11_feed _ _ _ _ _ hT hO hK (fun S1 R1 hT1 hO1 hP1 => ?_)
        refine w_st rfl (fun _ => rfl) ?_
        refine w_st rfl (fun _ => rfl) ?_
        refine w_st rfl (fun _ => rfl) ?_
        refine w_st rfl (fun _ => rfl) ?_
        refine w_st rfl (fun _ => rfl) ?_
        refine w_st rfl (fun _ => rfl) ?_
        show w_T L xs 60 m_L_law 534 [(3, .int (Int32.ofInt (i : Int))), (2, .ref 100), (1, .ref 1), (0, .ref 0)] [.int ((Int32.ofInt (i : Int)) + (Int32.ofInt 1)), .ref 0, .ref 100] S1 R1 Q
        refine w_sld rfl (by first | (rw [← Int32.ofInt_add, q_ofr (by omega) (by omega)]; omega) | (rw [w_nat (by omega)]; omega)) (by first | (rw [← Int32.ofInt_add, q_ofr (by omega) (by omega)]; omega) | (rw [w_nat (by omega)]; omega)) ?_
        refine w_st rfl (fun _ => rfl) ?_
        refine w_st rfl (fun _ => rfl) ?_
        refine w_st rfl (fun _ => rfl) ?_
        refine w_st rfl (fun _ => rfl) ?_
        show w_T L xs 60 m_L_law 539 [(3, .int (Int32.ofInt (i : Int))), (2, .ref 100), (1, .ref 1), (0, .ref 0)] [.int ((Int32.ofInt (i : Int)) + (Int32.ofInt 2)), .ref 0, .int (xs ((Int32.ofInt (i : Int)) + (Int32.ofInt 1)).toInt.toNat), .ref 100] S1 R1 Q
        refine w_sld rfl (by first | (rw [← Int32.ofInt_add, q_ofr (by omega) (by omega)]; omega) | (rw [w_nat (by omega)]; omega)) (by first | (rw [← Int32.ofInt_add, q_ofr (by omega) (by omega)]; omega) | (rw [w_nat (by omega)]; omega)) ?_
        refine w_st rfl (fun _ => rfl) ?_
        refine w_st rfl (fun _ => rfl) ?_
        refine w_st rfl (fun _ => rfl) ?_
        refine w_st rfl (fun _ => rfl) ?_
        show w_T L xs 60 m_L_law 544 [(3, .int (Int32.ofInt (i : Int))), (2, .ref 100), (1, .ref 1), (0, .ref 0)] [.int ((Int32.ofInt (i : Int)) + (Int32.ofInt 3)), .ref 0, .int (xs ((Int32.ofInt (i : Int)) + (Int32.ofInt 2)).toInt.toNat), .int (xs ((Int32.ofInt (i : Int)) + (Int32.ofInt 1)).toInt.toNat), .ref 100] S1 R1 Q
        refine w_sld rfl (by first | (rw [← Int32.ofInt_add, q_ofr (by omega) (by omega)]; omega) | (rw [w_nat (by omega)]; omega)) (by first | (rw [← Int32.ofInt_add, q_ofr (by omega) (by omega)]; omega) | (rw [w_nat (by omega)]; omega)) ?_
        refine w_st rfl (fun _ => rfl) ?_
        refine w_st rfl (fun _ => rfl) ?_
        refine w_st rfl (fun _ => rfl) ?_
        refine w_st rfl (fun _ => rfl) ?_
        show w_T L xs 60 m_L_law 549 [(3, .int (Int32.ofInt (i : Int))), (2, .ref 100), (1, .ref 1), (0, .ref 0)] [.int ((Int32.ofInt (i : Int)) + (Int32.ofInt 4)), .ref 0, .int (xs ((Int32.ofInt (i : Int)) + (Int32.ofInt 3)).toInt.toNat), .int (xs ((Int32.ofInt (i : Int)) + (Int32.ofInt 2)).toInt.toNat), .int (xs ((Int32.ofInt (i : Int)) + (Int32.ofInt 1)).toInt.toNat), .ref 100] S1 R1 Q
        refine w_sld rfl (by first | (rw [← Int32.ofInt_add, q_ofr (by omega) (by omega)]; omega) | (rw [w_nat (by omega)]; omega)) (by first | (rw [← Int32.ofInt_add, q_ofr (by omega) (by omega)]; omega) | (rw [w_nat (by omega)]; omega)) ?_
        refine w_st rfl (fun _ => rfl) ?_
        refine w_st rfl (fun _ => rfl) ?_
        refine w_st rfl (fun _ => rfl) ?_
        refine w_st rfl (fun _ => rfl) ?_
        show w_T L xs 60 m_L_law 554 [(3, .int (Int32.ofInt (i : Int))), (2, .ref 100), (1, .ref 1), (0, .ref 0)] [.int ((Int32.ofInt (i : Int)) + (Int32.ofInt 5)), .ref 0, .int (xs ((Int32.ofInt (i : Int)) + (Int32.ofInt 4)).toInt.toNat), .int (xs ((Int32.ofInt (i : Int)) + (Int32.ofInt 3)).toInt.toNat), .int (xs ((Int32.ofInt (i : Int)) + (Int32.ofInt 2)).toInt.toNat), .int (xs ((Int32.ofInt (i : Int)) + (Int32.ofInt 1)).toInt.toNat), .ref 100] S1 R1 Q
        refine w_sld rfl (by first | (rw [← Int32.ofInt_add, q_ofr (by omega) (by omega)]; omega) | (rw [w_nat (by omega)]; omega)) (by first | (rw [← Int32.ofInt_add, q_ofr (by omega) (by omega)]; omega) | (rw [w_nat (by omega)]; omega)) ?_
        show w_T L xs 60 m_L_law 555 [(3, .int (Int32.ofInt (i : Int))), (2, .ref 100), (1, .ref 1), (0, .ref 0)] [.int (xs ((Int32.ofInt (i : Int)) + (Int32.ofInt 5)).toInt.toNat), .int (xs ((Int32.ofInt (i : Int)) + (Int32.ofInt 4)).toInt.toNat), .int (xs ((Int32.ofInt (i : Int)) + (Int32.ofInt 3)).toInt.toNat), .int (xs ((Int32.ofInt (i : Int)) + (Int32.ofInt 2)).toInt.toNat), .int (xs ((Int32.ofInt (i : Int)) + (Int32.ofInt 1)).toInt.toNat), .ref 100] S1 R1 Q
        refine w_cv rfl (by decide) mt_X12_feed v_tyM rfl rfl rfl (Nat.le_of_ble_eq_true rfl) (Nat.le_of_ble_eq_true rfl) (Nat.le_of_ble_eq_true rfl) ?_
        show w_T L xs _ m_X12_feed 0 (lv_args 0 [.ref 100, .int (xs ((Int32.ofInt (i : Int)) + (Int32.ofInt 1)).toInt.toNat), .int (xs ((Int32.ofInt (i : Int)) + (Int32.ofInt 2)).toInt.toNat), .int (xs ((Int32.ofInt (i : Int)) + (Int32.ofInt 3)).toInt.toNat), .int (xs ((Int32.ofInt (i : Int)) + (Int32.ofInt 4)).toInt.toNat), .int (xs ((Int32.ofInt (i : Int)) + (Int32.ofInt 5)).toInt.toNat)]) [] S1 R1 _
        refine b_X12_feed _ _ _ _ _ hT1 hO1 hP1 (fun S2 R2 hT2 hO2 hK2 => ?_)
        refine w_st rfl (fun _ => rfl) ?_
        refine w_st rfl (fun _ => rfl) ?_
        show w_T L xs 60 m_L_law 1446 [(3, .int (Int32.ofInt (i : Int))), (2, .ref 100), (1, .ref 1), (0, .ref 0)] [] S2 R2 Q
        exact tail S2 R2 hT2 hO2 hK2
      | 8, hk =>
        obtain rfl : (529 : Int) = o := Option.some.inj hk
        refine ⟨562, by decide, ?_⟩
        refine w_st rfl (fun _ => rfl) ?_
        refine w_st rfl (fun _ => rfl) ?_
        refine w_st rfl (fun _ => rfl) ?_
        refine w_st rfl (fun _ => rfl) ?_
        refine w_st rfl (fun _ => rfl) ?_
        show w_T L xs 60 m_L_law 567 [(3, .int (Int32.ofInt (i : Int))), (2, .ref 100), (1, .ref 1), (0, .ref 0)] [.int ((Int32.ofInt (i : Int)) + (Int32.ofInt 1)), .ref 0, .ref 1] S R Q
        refine w_sld rfl (by first | (rw [← Int32.ofInt_add, q_ofr (by omega) (by omega)]; omega) | (rw [w_nat (by omega)]; omega)) (by first | (rw [← Int32.ofInt_add, q_ofr (by omega) (by omega)]; omega) | (rw [w_nat (by omega)]; omega)) ?_
        show w_T L xs 60 m_L_law 568 [(3, .int (Int32.ofInt (i : Int))), (2, .ref 100), (1, .ref 1), (0, .ref 0)] [.int (xs ((Int32.ofInt (i : Int)) + (Int32.ofInt 1)).toInt.toNat), .ref 1] S R Q
        refine w_cv rfl (by decide) mt_X11_law v_tyC rfl rfl rfl (Nat.le_of_ble_eq_true rfl) (Nat.le_of_ble_eq_true rfl) (Nat.le_of_ble_eq_true rfl) ?_
        show w_T L xs _ m_X11_law 0 (lv_args 0 [.ref 1, .int (xs ((Int32.ofInt (i : Int)) + (Int32.ofInt 1)).toInt.toNat)]) [] S R _
        refine b_X11_law _ hT hO hK (fun S1 R1 hT1 hO1 hP1 => ?_)
        refine w_st rfl (fun _ => rfl) ?_
        refine w_st rfl (fun _ => rfl) ?_
        refine w_st rfl (fun _ => rfl) ?_
        refine w_st rfl (fun _ => rfl) ?_
        refine w_st rfl (fun _ => rfl) ?_
        refine w_st rfl (fun _ => rfl) ?_
        show w_T L xs 60 m_L_law 577 [(3, .int (Int32.ofInt (i : Int))), (2, .ref 100), (1, .ref 1), (0, .ref 0)] [.int ((Int32.ofInt (i : Int)) + (Int32.ofInt 1)), .ref 0, .ref 100] S1 R1 Q
        refine w_sld rfl (by first | (rw [← Int32.ofInt_add, q_ofr (by omega) (by omega)]; omega) | (rw [w_nat (by omega)]; omega)) (by first | (rw [← Int32.ofInt_add, q_ofr (by omega) (by omega)]; omega) | (rw [w_nat (by omega)]; omega)) ?_
        show w_T L xs 60 m_L_law 578 [(3, .int (Int32.ofInt (i : Int))), (2, .ref 100), (1, .ref 1), (0, .ref 0)] [.int (xs ((Int32.ofInt (i : Int)) + (Int32.ofInt 1)).toInt.toNat), .ref 100] S1 R1 Q
        refine w_cv rfl (by decide) mt_X12_law v_tyM rfl rfl rfl (Nat.le_of_ble_eq_true rfl) (Nat.le_of_ble_eq_true rfl) (Nat.le_of_ble_eq_true rfl) ?_
        show w_T L xs _ m_X12_law 0 (lv_args 0 [.ref 100, .int (xs ((Int32.ofInt (i : Int)) + (Int32.ofInt 1)).toInt.toNat)]) [] S1 R1 _
        refine b_X12_law _ hT1 hO1 hP1 (fun S2 R2 hT2 hO2 hK2 => ?_)
        refine w_st rfl (fun _ => rfl) ?_
        refine w_st rfl (fun _ => rfl) ?_
        show w_T L xs 60 m_L_law 1446 [(3, .int (Int32.ofInt (i : Int))), (2, .ref 100), (1, .ref 1), (0, .ref 0)] [] S2 R2 Q
        exact tail S2 R2 hT2 hO2 hK2
      | 9, hk =>
        obtain rfl : (552 : Int) = o := Option.some.inj hk
        refine ⟨585, by decide, ?_⟩
        refine w_st rfl (fun _ => rfl) ?_
        refine w_st rfl (fun _ => rfl) ?_
        refine w_st rfl (fun _ => rfl) ?_
        refine w_st rfl (fun _ => rfl) ?_
        refine w_st rfl (fun _ => rfl) ?_
        show w_T L xs 60 m_L_law 590 [(3, .int (Int32.ofInt (i : Int))), (2, .ref 100), (1, .ref 1), (0, .ref 0)] [.int ((Int32.ofInt (i : Int)) + (Int32.ofInt 1)), .ref 0, .ref 1] S R Q
        refine w_sld rfl (by first | (rw [← Int32.ofInt_add, q_ofr (by omega) (by omega)]; omega) | (rw [w_nat (by omega)]; omega)) (by first | (rw [← Int32.ofInt_add, q_ofr (by omega) (by omega)]; omega) | (rw [w_nat (by omega)]; omega)) ?_
        show w_T L xs 60 m_L_law 591 [(3, .int (Int32.ofInt (i : Int))), (2, .ref 100), (1, .ref 1), (0, .ref 0)] [.int (xs ((Int32.ofInt (i : Int)) + (Int32.ofInt 1)).toInt.toNat), .ref 1] S R Q
        refine w_cv rfl (by decide) mt_X11_rules v_tyC rfl rfl rfl (Nat.le_of_ble_eq_true rfl) (Nat.le_of_ble_eq_true rfl) (Nat.le_of_ble_eq_true rfl) ?_
        show w_T L xs _ m_X11_rules 0 (lv_args 0 [.ref 1, .int (xs ((Int32.ofInt (i : Int)) + (Int32.ofInt 1)).toInt.toNat)]) [] S R _
        refine b_X11_rules _ hT hO hK (fun S1 R1 hT1 hO1 hP1 => ?_)
        refine w_st rfl (fun _ => rfl) ?_
        refine w_st rfl (fun _ => rfl) ?_
        refine w_st rfl (fun _ => rfl) ?_
        refine w_st rfl (fun _ => rfl) ?_
        refine w_st rfl (fun _ => rfl) ?_
        refine w_st rfl (fun _ => rfl) ?_
        show w_T L xs 60 m_L_law 600 [(3, .int (Int32.ofInt (i : Int))), (2, .ref 100), (1, .ref 1), (0, .ref 0)] [.int ((Int32.ofInt (i : Int)) + (Int32.ofInt 1)), .ref 0, .ref 100] S1 R1 Q
        refine w_sld rfl (by first | (rw [← Int32.ofInt_add, q_ofr (by omega) (by omega)]; omega) | (rw [w_nat (by omega)]; omega)) (by first | (rw [← Int32.ofInt_add, q_ofr (by omega) (by omega)]; omega) | (rw [w_nat (by omega)]; omega)) ?_
        show w_T L xs 60 m_L_law 601 [(3, .int (Int32.ofInt (i : Int))), (2, .ref 100), (1, .ref 1), (0, .ref 0)] [.int (xs ((Int32.ofInt (i : Int)) + (Int32.ofInt 1)).toInt.toNat), .ref 100] S1 R1 Q
        refine w_cv rfl (by decide) mt_X12_rules v_tyM rfl rfl rfl (Nat.le_of_ble_eq_true rfl) (Nat.le_of_ble_eq_true rfl) (Nat.le_of_ble_eq_true rfl) ?_
        show w_T L xs _ m_X12_rules 0 (lv_args 0 [.ref 100, .int (xs ((Int32.ofInt (i : Int)) + (Int32.ofInt 1)).toInt.toNat)]) [] S1 R1 _
        refine b_X12_rules _ hT1 hO1 hP1 (fun S2 R2 hT2 hO2 hK2 => ?_)
        refine w_st rfl (fun _ => rfl) ?_
        refine w_st rfl (fun _ => rfl) ?_
        show w_T L xs 60 m_L_law 1446 [(3, .int (Int32.ofInt (i : Int))), (2, .ref 100), (1, .ref 1), (0, .ref 0)] [] S2 R2 Q
        exact tail S2 R2 hT2 hO2 hK2
      | 10, hk =>
        obtain rfl : (575 : Int) = o := Option.some.inj hk
        refine ⟨608, by decide, ?_⟩
        refine w_st rfl (fun _ => rfl) ?_
        refine w_st rfl (fun _ => rfl) ?_
        refine w_st rfl (fun _ => rfl) ?_
        refine w_st rfl (fun _ => rfl) ?_
        refine w_st rfl (fun _ => rfl) ?_
        show w_T L xs 60 m_L_law 613 [(3, .int (Int32.ofInt (i : Int))), (2, .ref 100), (1, .ref 1), (0, .ref 0)] [.int ((Int32.ofInt (i : Int)) + (Int32.ofInt 1)), .ref 0, .ref 1] S R Q
        refine w_sld rfl (by first | (rw [← Int32.ofInt_add, q_ofr (by omega) (by omega)]; omega) | (rw [w_nat (by omega)]; omega)) (by first | (rw [← Int32.ofInt_add, q_ofr (by omega) (by omega)]; omega) | (rw [w_nat (by omega)]; omega)) ?_
        refine w_st rfl (fun _ => rfl) ?_
        refine w_st rfl (fun _ => rfl) ?_
        refine w_st rfl (fun _ => rfl) ?_
        refine w_st rfl (fun _ => rfl) ?_
        show w_T L xs 60 m_L_law 618 [(3, .int (Int32.ofInt (i : Int))), (2, .ref 100), (1, .ref 1), (0, .ref 0)] [.int ((Int32.ofInt (i : Int)) + (Int32.ofInt 2)), .ref 0, .int (xs ((Int32.ofInt (i : Int)) + (Int32.ofInt 1)).toInt.toNat), .ref 1] S R Q
        refine w_sld rfl (by first | (rw [← Int32.ofInt_add, q_ofr (by omega) (by omega)]; omega) | (rw [w_nat (by omega)]; omega)) (by first | (rw [← Int32.ofInt_add, q_ofr (by omega) (by omega)]; omega) | (rw [w_nat (by omega)]; omega)) ?_
        show w_T L xs 60 m_L_law 619 [(3, .int (Int32.ofInt (i : Int))), (2, .ref 100), (1, .ref 1), (0, .ref 0)] [.int (xs ((Int32.ofInt (i : Int)) + (Int32.ofInt 2)).toInt.toNat), .int (xs ((Int32.ofInt (i : Int)) + (Int32.ofInt 1)).toInt.toNat), .ref 1] S R Q
        refine w_cv rfl (by decide) mt_X11_timetable v_tyC rfl rfl rfl (Nat.le_of_ble_eq_true rfl) (Nat.le_of_ble_eq_true rfl) (Nat.le_of_ble_eq_true rfl) ?_
        show w_T L xs _ m_X11_timetable 0 (lv_args 0 [.ref 1, .int (xs ((Int32.ofInt (i : Int)) + (Int32.ofInt 1)).toInt.toNat), .int (xs ((Int32.ofInt (i : Int)) + (Int32.ofInt 2)).toInt.toNat)]) [] S R _
        refine b_X11_timetable _ _ hT hO hK (fun S1 R1 hT1 hO1 hP1 => ?_)
        refine w_st rfl (fun _ => rfl) ?_
        refine w_st rfl (fun _ => rfl) ?_
        refine w_st rfl (fun _ => rfl) ?_
        refine w_st rfl (fun _ => rfl) ?_
        refine w_st rfl (fun _ => rfl) ?_
        refine w_st rfl (fun _ => rfl) ?_
        show w_T L xs 60 m_L_law 628 [(3, .int (Int32.ofInt (i : Int))), (2, .ref 100), (1, .ref 1), (0, .ref 0)] [.int ((Int32.ofInt (i : Int)) + (Int32.ofInt 1)), .ref 0, .ref 100] S1 R1 Q
        refine w_sld rfl (by first | (rw [← Int32.ofInt_add, q_ofr (by omega) (by omega)]; omega) | (rw [w_nat (by omega)]; omega)) (by first | (rw [← Int32.ofInt_add, q_ofr (by omega) (by omega)]; omega) | (rw [w_nat (by omega)]; omega)) ?_
        refine w_st rfl (fun _ => rfl) ?_
        refine w_st rfl (fun _ => rfl) ?_
        refine w_st rfl (fun _ => rfl) ?_
        refine w_st rfl (fun _ => rfl) ?_
        show w_T L xs 60 m_L_law 633 [(3, .int (Int32.ofInt (i : Int))), (2, .ref 100), (1, .ref 1), (0, .ref 0)] [.int ((Int32.ofInt (i : Int)) + (Int32.ofInt 2)), .ref 0, .int (xs ((Int32.ofInt (i : Int)) + (Int32.ofInt 1)).toInt.toNat), .ref 100] S1 R1 Q
        refine w_sld rfl (by first | (rw [← Int32.ofInt_add, q_ofr (by omega) (by omega)]; omega) | (rw [w_nat (by omega)]; omega)) (by first | (rw [← Int32.ofInt_add, q_ofr (by omega) (by omega)]; omega) | (rw [w_nat (by omega)]; omega)) ?_
        show w_T L xs 60 m_L_law 634 [(3, .int (Int32.ofInt (i : Int))), (2, .ref 100), (1, .ref 1), (0, .ref 0)] [.int (xs ((Int32.ofInt (i : Int)) + (Int32.ofInt 2)).toInt.toNat), .int (xs ((Int32.ofInt (i : Int)) + (Int32.ofInt 1)).toInt.toNat), .ref 100] S1 R1 Q
        refine w_cv rfl (by decide) mt_X12_timetable v_tyM rfl rfl rfl (Nat.le_of_ble_eq_true rfl) (Nat.le_of_ble_eq_true rfl) (Nat.le_of_ble_eq_true rfl) ?_
        show w_T L xs _ m_X12_timetable 0 (lv_args 0 [.ref 100, .int (xs ((Int32.ofInt (i : Int)) + (Int32.ofInt 1)).toInt.toNat), .int (xs ((Int32.ofInt (i : Int)) + (Int32.ofInt 2)).toInt.toNat)]) [] S1 R1 _
        refine b_X12_timetable _ _ hT1 hO1 hP1 (fun S2 R2 hT2 hO2 hK2 => ?_)
        refine w_st rfl (fun _ => rfl) ?_
        refine w_st rfl (fun _ => rfl) ?_
        show w_T L xs 60 m_L_law 1446 [(3, .int (Int32.ofInt (i : Int))), (2, .ref 100), (1, .ref 1), (0, .ref 0)] [] S2 R2 Q
        exact tail S2 R2 hT2 hO2 hK2
      | 11, hk =>
        obtain rfl : (608 : Int) = o := Option.some.inj hk
        refine ⟨641, by decide, ?_⟩
        refine w_st rfl (fun _ => rfl) ?_
        refine w_st rfl (fun _ => rfl) ?_
        refine w_st rfl (fun _ => rfl) ?_
        refine w_st rfl (fun _ => rfl) ?_
        refine w_st rfl (fun _ => rfl) ?_
        show w_T L xs 60 m_L_law 646 [(3, .int (Int32.ofInt (i : Int))), (2, .ref 100), (1, .ref 1), (0, .ref 0)] [.int ((Int32.ofInt (i : Int)) + (Int32.ofInt 1)), .ref 0, .ref 1] S R Q
        refine w_sld rfl (by first | (rw [← Int32.ofInt_add, q_ofr (by omega) (by omega)]; omega) | (rw [w_nat (by omega)]; omega)) (by first | (rw [← Int32.ofInt_add, q_ofr (by omega) (by omega)]; omega) | (rw [w_nat (by omega)]; omega)) ?_
        show w_T L xs 60 m_L_law 647 [(3, .int (Int32.ofInt (i : Int))), (2, .ref 100), (1, .ref 1), (0, .ref 0)] [.int (xs ((Int32.ofInt (i : Int)) + (Int32.ofInt 1)).toInt.toNat), .ref 1] S R Q
        refine w_cv rfl (by decide) mt_X11_months v_tyC rfl rfl rfl (Nat.le_of_ble_eq_true rfl) (Nat.le_of_ble_eq_true rfl) (Nat.le_of_ble_eq_true rfl) ?_
        show w_T L xs _ m_X11_months 0 (lv_args 0 [.ref 1, .int (xs ((Int32.ofInt (i : Int)) + (Int32.ofInt 1)).toInt.toNat)]) [] S R _
        refine b_X11_months _ hT hO hK (fun S1 R1 hT1 hO1 hP1 => ?_)
        refine w_st rfl (fun _ => rfl) ?_
        refine w_st rfl (fun _ => rfl) ?_
        refine w_st rfl (fun _ => rfl) ?_
        refine w_st rfl (fun _ => rfl) ?_
        refine w_st rfl (fun _ => rfl) ?_
        refine w_st rfl (fun _ => rfl) ?_
        show w_T L xs 60 m_L_law 656 [(3, .int (Int32.ofInt (i : Int))), (2, .ref 100), (1, .ref 1), (0, .ref 0)] [.int ((Int32.ofInt (i : Int)) + (Int32.ofInt 1)), .ref 0, .ref 100] S1 R1 Q
        refine w_sld rfl (by first | (rw [← Int32.ofInt_add, q_ofr (by omega) (by omega)]; omega) | (rw [w_nat (by omega)]; omega)) (by first | (rw [← Int32.ofInt_add, q_ofr (by omega) (by omega)]; omega) | (rw [w_nat (by omega)]; omega)) ?_
        show w_T L xs 60 m_L_law 657 [(3, .int (Int32.ofInt (i : Int))), (2, .ref 100), (1, .ref 1), (0, .ref 0)] [.int (xs ((Int32.ofInt (i : Int)) + (Int32.ofInt 1)).toInt.toNat), .ref 100] S1 R1 Q
        refine w_cv rfl (by decide) mt_X12_months v_tyM rfl rfl rfl (Nat.le_of_ble_eq_true rfl) (Nat.le_of_ble_eq_true rfl) (Nat.le_of_ble_eq_true rfl) ?_
        show w_T L xs _ m_X12_months 0 (lv_args 0 [.ref 100, .int (xs ((Int32.ofInt (i : Int)) + (Int32.ofInt 1)).toInt.toNat)]) [] S1 R1 _
        refine b_X12_months _ hT1 hO1 hP1 (fun S2 R2 hT2 hO2 hK2 => ?_)
        refine w_st rfl (fun _ => rfl) ?_
        refine w_st rfl (fun _ => rfl) ?_
        show w_T L xs 60 m_L_law 1446 [(3, .int (Int32.ofInt (i : Int))), (2, .ref 100), (1, .ref 1), (0, .ref 0)] [] S2 R2 Q
        exact tail S2 R2 hT2 hO2 hK2
      | 12, hk =>
        obtain rfl : (631 : Int) = o := Option.some.inj hk
        refine ⟨664, by decide, ?_⟩
        refine w_st rfl (fun _ => rfl) ?_
        refine w_st rfl (fun _ => rfl) ?_
        refine w_st rfl (fun _ => rfl) ?_
        refine w_st rfl (fun _ => rfl) ?_
        refine w_st rfl (fun _ => rfl) ?_
        show w_T L xs 60 m_L_law 669 [(3, .int (Int32.ofInt (i : Int))), (2, .ref 100), (1, .ref 1), (0, .ref 0)] [.int ((Int32.ofInt (i : Int)) + (Int32.ofInt 1)), .ref 0, .ref 1] S R Q
        refine w_sld rfl (by first | (rw [← Int32.ofInt_add, q_ofr (by omega) (by omega)]; omega) | (rw [w_nat (by omega)]; omega)) (by first | (rw [← Int32.ofInt_add, q_ofr (by omega) (by omega)]; omega) | (rw [w_nat (by omega)]; omega)) ?_
        refine w_st rfl (fun _ => rfl) ?_
        refine w_st rfl (fun _ => rfl) ?_
        refine w_st rfl (fun _ => rfl) ?_
        refine w_st rfl (fun _ => rfl) ?_
        show w_T L xs 60 m_L_law 674 [(3, .int (Int32.ofInt (i : Int))), (2, .ref 100), (1, .ref 1), (0, .ref 0)] [.int ((Int32.ofInt (i : Int)) + (Int32.ofInt 2)), .ref 0, .int (xs ((Int32.ofInt (i : Int)) + (Int32.ofInt 1)).toInt.toNat), .ref 1] S R Q
        refine w_sld rfl (by first | (rw [← Int32.ofInt_add, q_ofr (by omega) (by omega)]; omega) | (rw [w_nat (by omega)]; omega)) (by first | (rw [← Int32.ofInt_add, q_ofr (by omega) (by omega)]; omega) | (rw [w_nat (by omega)]; omega)) ?_
        show w_T L xs 60 m_L_law 675 [(3, .int (Int32.ofInt (i : Int))), (2, .ref 100), (1, .ref 1), (0, .ref 0)] [.int (xs ((Int32.ofInt (i : Int)) + (Int32.ofInt 2)).toInt.toNat), .int (xs ((Int32.ofInt (i : Int)) + (Int32.ofInt 1)).toInt.toNat), .ref 1] S R Q
        refine w_cv rfl (by decide) mt_X11_tried v_tyC rfl rfl rfl (Nat.le_of_ble_eq_true rfl) (Nat.le_of_ble_eq_true rfl) (Nat.le_of_ble_eq_true rfl) ?_
        show w_T L xs _ m_X11_tried 0 (lv_args 0 [.ref 1, .int (xs ((Int32.ofInt (i : Int)) + (Int32.ofInt 1)).toInt.toNat), .int (xs ((Int32.ofInt (i : Int)) + (Int32.ofInt 2)).toInt.toNat)]) [] S R _
        refine b_X11_tried _ _ hT hO hK (fun S1 R1 u1 hT1 hO1 hP1 => ?_)
        refine w_st rfl (fun _ => rfl) ?_
        refine w_st rfl (fun _ => rfl) ?_
        refine w_st rfl (fun _ => rfl) ?_
        refine w_st rfl (fun _ => rfl) ?_
        refine w_st rfl (fun _ => rfl) ?_
        refine w_st rfl (fun _ => rfl) ?_
        show w_T L xs 60 m_L_law 684 [(3, .int (Int32.ofInt (i : Int))), (2, .ref 100), (1, .ref 1), (0, .ref 0)] [.int ((Int32.ofInt (i : Int)) + (Int32.ofInt 1)), .ref 0, .ref 100] S1 R1 Q
        refine w_sld rfl (by first | (rw [← Int32.ofInt_add, q_ofr (by omega) (by omega)]; omega) | (rw [w_nat (by omega)]; omega)) (by first | (rw [← Int32.ofInt_add, q_ofr (by omega) (by omega)]; omega) | (rw [w_nat (by omega)]; omega)) ?_
        refine w_st rfl (fun _ => rfl) ?_
        refine w_st rfl (fun _ => rfl) ?_
        refine w_st rfl (fun _ => rfl) ?_
        refine w_st rfl (fun _ => rfl) ?_
        show w_T L xs 60 m_L_law 689 [(3, .int (Int32.ofInt (i : Int))), (2, .ref 100), (1, .ref 1), (0, .ref 0)] [.int ((Int32.ofInt (i : Int)) + (Int32.ofInt 2)), .ref 0, .int (xs ((Int32.ofInt (i : Int)) + (Int32.ofInt 1)).toInt.toNat), .ref 100] S1 R1 Q
        refine w_sld rfl (by first | (rw [← Int32.ofInt_add, q_ofr (by omega) (by omega)]; omega) | (rw [w_nat (by omega)]; omega)) (by first | (rw [← Int32.ofInt_add, q_ofr (by omega) (by omega)]; omega) | (rw [w_nat (by omega)]; omega)) ?_
        show w_T L xs 60 m_L_law 690 [(3, .int (Int32.ofInt (i : Int))), (2, .ref 100), (1, .ref 1), (0, .ref 0)] [.int (xs ((Int32.ofInt (i : Int)) + (Int32.ofInt 2)).toInt.toNat), .int (xs ((Int32.ofInt (i : Int)) + (Int32.ofInt 1)).toInt.toNat), .ref 100] S1 R1 Q
        refine w_cv rfl (by decide) mt_X12_tried v_tyM rfl rfl rfl (Nat.le_of_ble_eq_true rfl) (Nat.le_of_ble_eq_true rfl) (Nat.le_of_ble_eq_true rfl) ?_
        show w_T L xs _ m_X12_tried 0 (lv_args 0 [.ref 100, .int (xs ((Int32.ofInt (i : Int)) + (Int32.ofInt 1)).toInt.toNat), .int (xs ((Int32.ofInt (i : Int)) + (Int32.ofInt 2)).toInt.toNat)]) [] S1 R1 _
        refine b_X12_tried _ _ hT1 hO1 hP1 (fun S2 R2 hT2 hO2 hK2 => ?_)
        refine w_st rfl (fun _ => rfl) ?_
        refine w_st rfl (fun _ => rfl) ?_
        show w_T L xs 60 m_L_law 1446 [(3, .int (Int32.ofInt (i : Int))), (2, .ref 100), (1, .ref 1), (0, .ref 0)] [] S2 R2 Q
        exact tail S2 R2 hT2 hO2 hK2
      | 13, hk =>
        obtain rfl : (664 : Int) = o := Option.some.inj hk
        refine ⟨697, by decide, ?_⟩
        refine w_st rfl (fun _ => rfl) ?_
        refine w_st rfl (fun _ => rfl) ?_
        refine w_st rfl (fun _ => rfl) ?_
        refine w_st rfl (fun _ => rfl) ?_
        refine w_st rfl (fun _ => rfl) ?_
        show w_T L xs 60 m_L_law 702 [(3, .int (Int32.ofInt (i : Int))), (2, .ref 100), (1, .ref 1), (0, .ref 0)] [.int ((Int32.ofInt (i : Int)) + (Int32.ofInt 1)), .ref 0, .ref 1] S R Q
        refine w_sld rfl (by first | (rw [← Int32.ofInt_add, q_ofr (by omega) (by omega)]; omega) | (rw [w_nat (by omega)]; omega)) (by first | (rw [← Int32.ofInt_add, q_ofr (by omega) (by omega)]; omega) | (rw [w_nat (by omega)]; omega)) ?_
        refine w_st rfl (fun _ => rfl) ?_
        refine w_st rfl (fun _ => rfl) ?_
        refine w_st rfl (fun _ => rfl) ?_
        refine w_st rfl (fun _ => rfl) ?_
        show w_T L xs 60 m_L_law 707 [(3, .int (Int32.ofInt (i : Int))), (2, .ref 100), (1, .ref 1), (0, .ref 0)] [.int ((Int32.ofInt (i : Int)) + (Int32.ofInt 2)), .ref 0, .int (xs ((Int32.ofInt (i : Int)) + (Int32.ofInt 1)).toInt.toNat), .ref 1] S R Q
        refine w_sld rfl (by first | (rw [← Int32.ofInt_add, q_ofr (by omega) (by omega)]; omega) | (rw [w_nat (by omega)]; omega)) (by first | (rw [← Int32.ofInt_add, q_ofr (by omega) (by omega)]; omega) | (rw [w_nat (by omega)]; omega)) ?_
        show w_T L xs 60 m_L_law 708 [(3, .int (Int32.ofInt (i : Int))), (2, .ref 100), (1, .ref 1), (0, .ref 0)] [.int (xs ((Int32.ofInt (i : Int)) + (Int32.ofInt 2)).toInt.toNat), .int (xs ((Int32.ofInt (i : Int)) + (Int32.ofInt 1)).toInt.toNat), .ref 1] S R Q
        refine w_cv rfl (by decide) mt_X11_gustIs v_tyC rfl rfl rfl (Nat.le_of_ble_eq_true rfl) (Nat.le_of_ble_eq_true rfl) (Nat.le_of_ble_eq_true rfl) ?_
        show w_T L xs _ m_X11_gustIs 0 (lv_args 0 [.ref 1, .int (xs ((Int32.ofInt (i : Int)) + (Int32.ofInt 1)).toInt.toNat), .int (xs ((Int32.ofInt (i : Int)) + (Int32.ofInt 2)).toInt.toNat)]) [] S R _
        refine b_X11_gustIs _ _ hT hO hK (fun S1 R1 hT1 hO1 hP1 => ?_)
        refine w_st rfl (fun _ => rfl) ?_
        refine w_st rfl (fun _ => rfl) ?_
        refine w_st rfl (fun _ => rfl) ?_
        refine w_st rfl (fun _ => rfl) ?_
        refine w_st rfl (fun _ => rfl) ?_
        refine w_st rfl (fun _ => rfl) ?_
        show w_T L xs 60 m_L_law 717 [(3, .int (Int32.ofInt (i : Int))), (2, .ref 100), (1, .ref 1), (0, .ref 0)] [.int ((Int32.ofInt (i : Int)) + (Int32.ofInt 1)), .ref 0, .ref 100] S1 R1 Q
        refine w_sld rfl (by first | (rw [← Int32.ofInt_add, q_ofr (by omega) (by omega)]; omega) | (rw [w_nat (by omega)]; omega)) (by first | (rw [← Int32.ofInt_add, q_ofr (by omega) (by omega)]; omega) | (rw [w_nat (by omega)]; omega)) ?_
        refine w_st rfl (fun _ => rfl) ?_
        refine w_st rfl (fun _ => rfl) ?_
        refine w_st rfl (fun _ => rfl) ?_
        refine w_st rfl (fun _ => rfl) ?_
        show w_T L xs 60 m_L_law 722 [(3, .int (Int32.ofInt (i : Int))), (2, .ref 100), (1, .ref 1), (0, .ref 0)] [.int ((Int32.ofInt (i : Int)) + (Int32.ofInt 2)), .ref 0, .int (xs ((Int32.ofInt (i : Int)) + (Int32.ofInt 1)).toInt.toNat), .ref 100] S1 R1 Q
        refine w_sld rfl (by first | (rw [← Int32.ofInt_add, q_ofr (by omega) (by omega)]; omega) | (rw [w_nat (by omega)]; omega)) (by first | (rw [← Int32.ofInt_add, q_ofr (by omega) (by omega)]; omega) | (rw [w_nat (by omega)]; omega)) ?_
        show w_T L xs 60 m_L_law 723 [(3, .int (Int32.ofInt (i : Int))), (2, .ref 100), (1, .ref 1), (0, .ref 0)] [.int (xs ((Int32.ofInt (i : Int)) + (Int32.ofInt 2)).toInt.toNat), .int (xs ((Int32.ofInt (i : Int)) + (Int32.ofInt 1)).toInt.toNat), .ref 100] S1 R1 Q
        refine w_cv rfl (by decide) mt_X12_gustIs v_tyM rfl rfl rfl (Nat.le_of_ble_eq_true rfl) (Nat.le_of_ble_eq_true rfl) (Nat.le_of_ble_eq_true rfl) ?_
        show w_T L xs _ m_X12_gustIs 0 (lv_args 0 [.ref 100, .int (xs ((Int32.ofInt (i : Int)) + (Int32.ofInt 1)).toInt.toNat), .int (xs ((Int32.ofInt (i : Int)) + (Int32.ofInt 2)).toInt.toNat)]) [] S1 R1 _
        refine b_X12_gustIs _ _ hT1 hO1 hP1 (fun S2 R2 hT2 hO2 hK2 => ?_)
        refine w_st rfl (fun _ => rfl) ?_
        refine w_st rfl (fun _ => rfl) ?_
        show w_T L xs 60 m_L_law 1446 [(3, .int (Int32.ofInt (i : Int))), (2, .ref 100), (1, .ref 1), (0, .ref 0)] [] S2 R2 Q
        exact tail S2 R2 hT2 hO2 hK2
      | 14, hk =>
        obtain rfl : (697 : Int) = o := Option.some.inj hk
        refine ⟨730, by decide, ?_⟩
        refine w_st rfl (fun _ => rfl) ?_
        refine w_st rfl (fun _ => rfl) ?_
        refine w_st rfl (fun _ => rfl) ?_
        refine w_st rfl (fun _ => rfl) ?_
        refine w_st rfl (fun _ => rfl) ?_
        show w_T L xs 60 m_L_law 735 [(3, .int (Int32.ofInt (i : Int))), (2, .ref 100), (1, .ref 1), (0, .ref 0)] [.int ((Int32.ofInt (i : Int)) + (Int32.ofInt 1)), .ref 0, .ref 1] S R Q
        refine w_sld rfl (by first | (rw [← Int32.ofInt_add, q_ofr (by omega) (by omega)]; omega) | (rw [w_nat (by omega)]; omega)) (by first | (rw [← Int32.ofInt_add, q_ofr (by omega) (by omega)]; omega) | (rw [w_nat (by omega)]; omega)) ?_
        refine w_st rfl (fun _ => rfl) ?_
        refine w_st rfl (fun _ => rfl) ?_
        refine w_st rfl (fun _ => rfl) ?_
        refine w_st rfl (fun _ => rfl) ?_
        show w_T L xs 60 m_L_law 740 [(3, .int (Int32.ofInt (i : Int))), (2, .ref 100), (1, .ref 1), (0, .ref 0)] [.int ((Int32.ofInt (i : Int)) + (Int32.ofInt 2)), .ref 0, .int (xs ((Int32.ofInt (i : Int)) + (Int32.ofInt 1)).toInt.toNat), .ref 1] S R Q
        refine w_sld rfl (by first | (rw [← Int32.ofInt_add, q_ofr (by omega) (by omega)]; omega) | (rw [w_nat (by omega)]; omega)) (by first | (rw [← Int32.ofInt_add, q_ofr (by omega) (by omega)]; omega) | (rw [w_nat (by omega)]; omega)) ?_
        show w_T L xs 60 m_L_law 741 [(3, .int (Int32.ofInt (i : Int))), (2, .ref 100), (1, .ref 1), (0, .ref 0)] [.int (xs ((Int32.ofInt (i : Int)) + (Int32.ofInt 2)).toInt.toNat), .int (xs ((Int32.ofInt (i : Int)) + (Int32.ofInt 1)).toInt.toNat), .ref 1] S R Q
        refine w_cv rfl (by decide) mt_X11_wardIs v_tyC rfl rfl rfl (Nat.le_of_ble_eq_true rfl) (Nat.le_of_ble_eq_true rfl) (Nat.le_of_ble_eq_true rfl) ?_
        show w_T L xs _ m_X11_wardIs 0 (lv_args 0 [.ref 1, .int (xs ((Int32.ofInt (i : Int)) + (Int32.ofInt 1)).toInt.toNat), .int (xs ((Int32.ofInt (i : Int)) + (Int32.ofInt 2)).toInt.toNat)]) [] S R _
        refine b_X11_wardIs _ _ hT hO hK (fun S1 R1 u1 hT1 hO1 hK1 => ?_)
        refine w_st rfl (fun _ => rfl) ?_
        refine w_st rfl (fun _ => rfl) ?_
        refine w_st rfl (fun _ => rfl) ?_
        refine w_st rfl (fun _ => rfl) ?_
        refine w_st rfl (fun _ => rfl) ?_
        refine w_st rfl (fun _ => rfl) ?_
        show w_T L xs 60 m_L_law 750 [(3, .int (Int32.ofInt (i : Int))), (2, .ref 100), (1, .ref 1), (0, .ref 0)] [.int ((Int32.ofInt (i : Int)) + (Int32.ofInt 1)), .ref 0, .ref 100] S1 R1 Q
        refine w_sld rfl (by first | (rw [← Int32.ofInt_add, q_ofr (by omega) (by omega)]; omega) | (rw [w_nat (by omega)]; omega)) (by first | (rw [← Int32.ofInt_add, q_ofr (by omega) (by omega)]; omega) | (rw [w_nat (by omega)]; omega)) ?_
        refine w_st rfl (fun _ => rfl) ?_
        refine w_st rfl (fun _ => rfl) ?_
        refine w_st rfl (fun _ => rfl) ?_
        refine w_st rfl (fun _ => rfl) ?_
        show w_T L xs 60 m_L_law 755 [(3, .int (Int32.ofInt (i : Int))), (2, .ref 100), (1, .ref 1), (0, .ref 0)] [.int ((Int32.ofInt (i : Int)) + (Int32.ofInt 2)), .ref 0, .int (xs ((Int32.ofInt (i : Int)) + (Int32.ofInt 1)).toInt.toNat), .ref 100] S1 R1 Q
        refine w_sld rfl (by first | (rw [← Int32.ofInt_add, q_ofr (by omega) (by omega)]; omega) | (rw [w_nat (by omega)]; omega)) (by first | (rw [← Int32.ofInt_add, q_ofr (by omega) (by omega)]; omega) | (rw [w_nat (by omega)]; omega)) ?_
        show w_T L xs 60 m_L_law 756 [(3, .int (Int32.ofInt (i : Int))), (2, .ref 100), (1, .ref 1), (0, .ref 0)] [.int (xs ((Int32.ofInt (i : Int)) + (Int32.ofInt 2)).toInt.toNat), .int (xs ((Int32.ofInt (i : Int)) + (Int32.ofInt 1)).toInt.toNat), .ref 100] S1 R1 Q
        refine w_cv rfl (by decide) mt_X12_wardIs v_tyM rfl rfl rfl (Nat.le_of_ble_eq_true rfl) (Nat.le_of_ble_eq_true rfl) (Nat.le_of_ble_eq_true rfl) ?_
        show w_T L xs _ m_X12_wardIs 0 (lv_args 0 [.ref 100, .int (xs ((Int32.ofInt (i : Int)) + (Int32.ofInt 1)).toInt.toNat), .int (xs ((Int32.ofInt (i : Int)) + (Int32.ofInt 2)).toInt.toNat)]) [] S1 R1 _
        refine b_X12_wardIs _ _ hT1 hO1 hK1 (fun S2 R2 u2 hT2 hO2 hK2 => ?_)
        refine w_st rfl (fun _ => rfl) ?_
        refine w_st rfl (fun _ => rfl) ?_
        show w_T L xs 60 m_L_law 1446 [(3, .int (Int32.ofInt (i : Int))), (2, .ref 100), (1, .ref 1), (0, .ref 0)] [] S2 R2 Q
        exact tail S2 R2 hT2 hO2 hK2
      | 15, hk =>
        obtain rfl : (730 : Int) = o := Option.some.inj hk
        refine ⟨763, by decide, ?_⟩
        refine w_st rfl (fun _ => rfl) ?_
        refine w_st rfl (fun _ => rfl) ?_
        refine w_st rfl (fun _ => rfl) ?_
        refine w_st rfl (fun _ => rfl) ?_
        refine w_st rfl (fun _ => rfl) ?_
        show w_T L xs 60 m_L_law 768 [(3, .int (Int32.ofInt (i : Int))), (2, .ref 100), (1, .ref 1), (0, .ref 0)] [.int ((Int32.ofInt (i : Int)) + (Int32.ofInt 1)), .ref 0, .ref 1] S R Q
        refine w_sld rfl (by first | (rw [← Int32.ofInt_add, q_ofr (by omega) (by omega)]; omega) | (rw [w_nat (by omega)]; omega)) (by first | (rw [← Int32.ofInt_add, q_ofr (by omega) (by omega)]; omega) | (rw [w_nat (by omega)]; omega)) ?_
        refine w_st rfl (fun _ => rfl) ?_
        refine w_st rfl (fun _ => rfl) ?_
        refine w_st rfl (fun _ => rfl) ?_
        refine w_st rfl (fun _ => rfl) ?_
        show w_T L xs 60 m_L_law 773 [(3, .int (Int32.ofInt (i : Int))), (2, .ref 100), (1, .ref 1), (0, .ref 0)] [.int ((Int32.ofInt (i : Int)) + (Int32.ofInt 2)), .ref 0, .int (xs ((Int32.ofInt (i : Int)) + (Int32.ofInt 1)).toInt.toNat), .ref 1] S R Q
        refine w_sld rfl (by first | (rw [← Int32.ofInt_add, q_ofr (by omega) (by omega)]; omega) | (rw [w_nat (by omega)]; omega)) (by first | (rw [← Int32.ofInt_add, q_ofr (by omega) (by omega)]; omega) | (rw [w_nat (by omega)]; omega)) ?_
        show w_T L xs 60 m_L_law 774 [(3, .int (Int32.ofInt (i : Int))), (2, .ref 100), (1, .ref 1), (0, .ref 0)] [.int (xs ((Int32.ofInt (i : Int)) + (Int32.ofInt 2)).toInt.toNat), .int (xs ((Int32.ofInt (i : Int)) + (Int32.ofInt 1)).toInt.toNat), .ref 1] S R Q
        refine w_cv rfl (by decide) mt_X11_nurseIs v_tyC rfl rfl rfl (Nat.le_of_ble_eq_true rfl) (Nat.le_of_ble_eq_true rfl) (Nat.le_of_ble_eq_true rfl) ?_
        show w_T L xs _ m_X11_nurseIs 0 (lv_args 0 [.ref 1, .int (xs ((Int32.ofInt (i : Int)) + (Int32.ofInt 1)).toInt.toNat), .int (xs ((Int32.ofInt (i : Int)) + (Int32.ofInt 2)).toInt.toNat)]) [] S R _
        refine b_X11_nurseIs _ _ hT hO hK (fun S1 R1 hT1 hO1 hP1 => ?_)
        refine w_st rfl (fun _ => rfl) ?_
        refine w_st rfl (fun _ => rfl) ?_
        refine w_st rfl (fun _ => rfl) ?_
        refine w_st rfl (fun _ => rfl) ?_
        refine w_st rfl (fun _ => rfl) ?_
        refine w_st rfl (fun _ => rfl) ?_
        show w_T L xs 60 m_L_law 783 [(3, .int (Int32.ofInt (i : Int))), (2, .ref 100), (1, .ref 1), (0, .ref 0)] [.int ((Int32.ofInt (i : Int)) + (Int32.ofInt 1)), .ref 0, .ref 100] S1 R1 Q
        refine w_sld rfl (by first | (rw [← Int32.ofInt_add, q_ofr (by omega) (by omega)]; omega) | (rw [w_nat (by omega)]; omega)) (by first | (rw [← Int32.ofInt_add, q_ofr (by omega) (by omega)]; omega) | (rw [w_nat (by omega)]; omega)) ?_
        refine w_st rfl (fun _ => rfl) ?_
        refine w_st rfl (fun _ => rfl) ?_
        refine w_st rfl (fun _ => rfl) ?_
        refine w_st rfl (fun _ => rfl) ?_
        show w_T L xs 60 m_L_law 788 [(3, .int (Int32.ofInt (i : Int))), (2, .ref 100), (1, .ref 1), (0, .ref 0)] [.int ((Int32.ofInt (i : Int)) + (Int32.ofInt 2)), .ref 0, .int (xs ((Int32.ofInt (i : Int)) + (Int32.ofInt 1)).toInt.toNat), .ref 100] S1 R1 Q
        refine w_sld rfl (by first | (rw [← Int32.ofInt_add, q_ofr (by omega) (by omega)]; omega) | (rw [w_nat (by omega)]; omega)) (by first | (rw [← Int32.ofInt_add, q_ofr (by omega) (by omega)]; omega) | (rw [w_nat (by omega)]; omega)) ?_
        show w_T L xs 60 m_L_law 789 [(3, .int (Int32.ofInt (i : Int))), (2, .ref 100), (1, .ref 1), (0, .ref 0)] [.int (xs ((Int32.ofInt (i : Int)) + (Int32.ofInt 2)).toInt.toNat), .int (xs ((Int32.ofInt (i : Int)) + (Int32.ofInt 1)).toInt.toNat), .ref 100] S1 R1 Q
        refine w_cv rfl (by decide) mt_X12_nurseIs v_tyM rfl rfl rfl (Nat.le_of_ble_eq_true rfl) (Nat.le_of_ble_eq_true rfl) (Nat.le_of_ble_eq_true rfl) ?_
        show w_T L xs _ m_X12_nurseIs 0 (lv_args 0 [.ref 100, .int (xs ((Int32.ofInt (i : Int)) + (Int32.ofInt 1)).toInt.toNat), .int (xs ((Int32.ofInt (i : Int)) + (Int32.ofInt 2)).toInt.toNat)]) [] S1 R1 _
        refine b_X12_nurseIs _ _ hT1 hO1 hP1 (fun S2 R2 hT2 hO2 hK2 => ?_)
        refine w_st rfl (fun _ => rfl) ?_
        refine w_st rfl (fun _ => rfl) ?_
        show w_T L xs 60 m_L_law 1446 [(3, .int (Int32.ofInt (i : Int))), (2, .ref 100), (1, .ref 1), (0, .ref 0)] [] S2 R2 Q
        exact tail S2 R2 hT2 hO2 hK2
      | 16, hk =>
        obtain rfl : (763 : Int) = o := Option.some.inj hk
        refine ⟨796, by decide, ?_⟩
        refine w_st rfl (fun _ => rfl) ?_
        refine w_st rfl (fun _ => rfl) ?_
        refine w_st rfl (fun _ => rfl) ?_
        refine w_st rfl (fun _ => rfl) ?_
        refine w_st rfl (fun _ => rfl) ?_
        show w_T L xs 60 m_L_law 801 [(3, .int (Int32.ofInt (i : Int))), (2, .ref 100), (1, .ref 1), (0, .ref 0)] [.int ((Int32.ofInt (i : Int)) + (Int32.ofInt 1)), .ref 0, .ref 1] S R Q
        refine w_sld rfl (by first | (rw [← Int32.ofInt_add, q_ofr (by omega) (by omega)]; omega) | (rw [w_nat (by omega)]; omega)) (by first | (rw [← Int32.ofInt_add, q_ofr (by omega) (by omega)]; omega) | (rw [w_nat (by omega)]; omega)) ?_
        refine w_st rfl (fun _ => rfl) ?_
        refine w_st rfl (fun _ => rfl) ?_
        refine w_st rfl (fun _ => rfl) ?_
        refine w_st rfl (fun _ => rfl) ?_
        show w_T L xs 60 m_L_law 806 [(3, .int (Int32.ofInt (i : Int))), (2, .ref 100), (1, .ref 1), (0, .ref 0)] [.int ((Int32.ofInt (i : Int)) + (Int32.ofInt 2)), .ref 0, .int (xs ((Int32.ofInt (i : Int)) + (Int32.ofInt 1)).toInt.toNat), .ref 1] S R Q
        refine w_sld rfl (by first | (rw [← Int32.ofInt_add, q_ofr (by omega) (by omega)]; omega) | (rw [w_nat (by omega)]; omega)) (by first | (rw [← Int32.ofInt_add, q_ofr (by omega) (by omega)]; omega) | (rw [w_nat (by omega)]; omega)) ?_
        show w_T L xs 60 m_L_law 807 [(3, .int (Int32.ofInt (i : Int))), (2, .ref 100), (1, .ref 1), (0, .ref 0)] [.int (xs ((Int32.ofInt (i : Int)) + (Int32.ofInt 2)).toInt.toNat), .int (xs ((Int32.ofInt (i : Int)) + (Int32.ofInt 1)).toInt.toNat), .ref 1] S R Q
        refine w_cv rfl (by decide) mt_X11_quarrel v_tyC rfl rfl rfl (Nat.le_of_ble_eq_true rfl) (Nat.le_of_ble_eq_true rfl) (Nat.le_of_ble_eq_true rfl) ?_
        show w_T L xs _ m_X11_quarrel 0 (lv_args 0 [.ref 1, .int (xs ((Int32.ofInt (i : Int)) + (Int32.ofInt 1)).toInt.toNat), .int (xs ((Int32.ofInt (i : Int)) + (Int32.ofInt 2)).toInt.toNat)]) [] S R _
        refine b_X11_quarrel _ _ hT hO hK (fun S1 R1 u1 hT1 hO1 hK1 => ?_)
        refine w_st rfl (fun _ => rfl) ?_
        refine w_st rfl (fun _ => rfl) ?_
        refine w_st rfl (fun _ => rfl) ?_
        refine w_st rfl (fun _ => rfl) ?_
        refine w_st rfl (fun _ => rfl) ?_
        refine w_st rfl (fun _ => rfl) ?_
        show w_T L xs 60 m_L_law 816 [(3, .int (Int32.ofInt (i : Int))), (2, .ref 100), (1, .ref 1), (0, .ref 0)] [.int ((Int32.ofInt (i : Int)) + (Int32.ofInt 1)), .ref 0, .ref 100] S1 R1 Q
        refine w_sld rfl (by first | (rw [← Int32.ofInt_add, q_ofr (by omega) (by omega)]; omega) | (rw [w_nat (by omega)]; omega)) (by first | (rw [← Int32.ofInt_add, q_ofr (by omega) (by omega)]; omega) | (rw [w_nat (by omega)]; omega)) ?_
        refine w_st rfl (fun _ => rfl) ?_
        refine w_st rfl (fun _ => rfl) ?_
        refine w_st rfl (fun _ => rfl) ?_
        refine w_st rfl (fun _ => rfl) ?_
        show w_T L xs 60 m_L_law 821 [(3, .int (Int32.ofInt (i : Int))), (2, .ref 100), (1, .ref 1), (0, .ref 0)] [.int ((Int32.ofInt (i : Int)) + (Int32.ofInt 2)), .ref 0, .int (xs ((Int32.ofInt (i : Int)) + (Int32.ofInt 1)).toInt.toNat), .ref 100] S1 R1 Q
        refine w_sld rfl (by first | (rw [← Int32.ofInt_add, q_ofr (by omega) (by omega)]; omega) | (rw [w_nat (by omega)]; omega)) (by first | (rw [← Int32.ofInt_add, q_ofr (by omega) (by omega)]; omega) | (rw [w_nat (by omega)]; omega)) ?_
        show w_T L xs 60 m_L_law 822 [(3, .int (Int32.ofInt (i : Int))), (2, .ref 100), (1, .ref 1), (0, .ref 0)] [.int (xs ((Int32.ofInt (i : Int)) + (Int32.ofInt 2)).toInt.toNat), .int (xs ((Int32.ofInt (i : Int)) + (Int32.ofInt 1)).toInt.toNat), .ref 100] S1 R1 Q
        refine w_cv rfl (by decide) mt_X12_quarrel v_tyM rfl rfl rfl (Nat.le_of_ble_eq_true rfl) (Nat.le_of_ble_eq_true rfl) (Nat.le_of_ble_eq_true rfl) ?_
        show w_T L xs _ m_X12_quarrel 0 (lv_args 0 [.ref 100, .int (xs ((Int32.ofInt (i : Int)) + (Int32.ofInt 1)).toInt.toNat), .int (xs ((Int32.ofInt (i : Int)) + (Int32.ofInt 2)).toInt.toNat)]) [] S1 R1 _
        refine b_X12_quarrel _ _ hT1 hO1 hK1 (fun S2 R2 u2 hT2 hO2 hK2 => ?_)
        refine w_st rfl (fun _ => rfl) ?_
        refine w_st rfl (fun _ => rfl) ?_
        show w_T L xs 60 m_L_law 1446 [(3, .int (Int32.ofInt (i : Int))), (2, .ref 100), (1, .ref 1), (0, .ref 0)] [] S2 R2 Q
        exact tail S2 R2 hT2 hO2 hK2
      | 17, hk =>
        obtain rfl : (796 : Int) = o := Option.some.inj hk
        refine ⟨829, by decide, ?_⟩
        refine w_st rfl (fun _ => rfl) ?_
        refine w_st rfl (fun _ => rfl) ?_
        refine w_st rfl (fun _ => rfl) ?_
        refine w_st rfl (fun _ => rfl) ?_
        refine w_st rfl (fun _ => rfl) ?_
        show w_T L xs 60 m_L_law 834 [(3, .int (Int32.ofInt (i : Int))), (2, .ref 100), (1, .ref 1), (0, .ref 0)] [.int ((Int32.ofInt (i : Int)) + (Int32.ofInt 1)), .ref 0, .ref 1] S R Q
        refine w_sld rfl (by first | (rw [← Int32.ofInt_add, q_ofr (by omega) (by omega)]; omega) | (rw [w_nat (by omega)]; omega)) (by first | (rw [← Int32.ofInt_add, q_ofr (by omega) (by omega)]; omega) | (rw [w_nat (by omega)]; omega)) ?_
        refine w_st rfl (fun _ => rfl) ?_
        refine w_st rfl (fun _ => rfl) ?_
        refine w_st rfl (fun _ => rfl) ?_
        refine w_st rfl (fun _ => rfl) ?_
        show w_T L xs 60 m_L_law 839 [(3, .int (Int32.ofInt (i : Int))), (2, .ref 100), (1, .ref 1), (0, .ref 0)] [.int ((Int32.ofInt (i : Int)) + (Int32.ofInt 2)), .ref 0, .int (xs ((Int32.ofInt (i : Int)) + (Int32.ofInt 1)).toInt.toNat), .ref 1] S R Q
        refine w_sld rfl (by first | (rw [← Int32.ofInt_add, q_ofr (by omega) (by omega)]; omega) | (rw [w_nat (by omega)]; omega)) (by first | (rw [← Int32.ofInt_add, q_ofr (by omega) (by omega)]; omega) | (rw [w_nat (by omega)]; omega)) ?_
        refine w_st rfl (fun _ => rfl) ?_
        refine w_st rfl (fun _ => rfl) ?_
        refine w_st rfl (fun _ => rfl) ?_
        refine w_st rfl (fun _ => rfl) ?_
        show w_T L xs 60 m_L_law 844 [(3, .int (Int32.ofInt (i : Int))), (2, .ref 100), (1, .ref 1), (0, .ref 0)] [.int ((Int32.ofInt (i : Int)) + (Int32.ofInt 3)), .ref 0, .int (xs ((Int32.ofInt (i : Int)) + (Int32.ofInt 2)).toInt.toNat), .int (xs ((Int32.ofInt (i : Int)) + (Int32.ofInt 1)).toInt.toNat), .ref 1] S R Q
        refine w_sld rfl (by first | (rw [← Int32.ofInt_add, q_ofr (by omega) (by omega)]; omega) | (rw [w_nat (by omega)]; omega)) (by first | (rw [← Int32.ofInt_add, q_ofr (by omega) (by omega)]; omega) | (rw [w_nat (by omega)]; omega)) ?_
        show w_T L xs 60 m_L_law 845 [(3, .int (Int32.ofInt (i : Int))), (2, .ref 100), (1, .ref 1), (0, .ref 0)] [.int (xs ((Int32.ofInt (i : Int)) + (Int32.ofInt 3)).toInt.toNat), .int (xs ((Int32.ofInt (i : Int)) + (Int32.ofInt 2)).toInt.toNat), .int (xs ((Int32.ofInt (i : Int)) + (Int32.ofInt 1)).toInt.toNat), .ref 1] S R Q
        refine w_cv rfl (by decide) mt_X11_housed v_tyC rfl rfl rfl (Nat.le_of_ble_eq_true rfl) (Nat.le_of_ble_eq_true rfl) (Nat.le_of_ble_eq_true rfl) ?_
        show w_T L xs _ m_X11_housed 0 (lv_args 0 [.ref 1, .int (xs ((Int32.ofInt (i : Int)) + (Int32.ofInt 1)).toInt.toNat), .int (xs ((Int32.ofInt (i : Int)) + (Int32.ofInt 2)).toInt.toNat), .int (xs ((Int32.ofInt (i : Int)) + (Int32.ofInt 3)).toInt.toNat)]) [] S R _
        refine b_X11_housed _ _ _ hT hO hK (fun S1 R1 u1 hT1 hO1 hK1 => ?_)
        refine w_st rfl (fun _ => rfl) ?_
        refine w_st rfl (fun _ => rfl) ?_
        refine w_st rfl (fun _ => rfl) ?_
        refine w_st rfl (fun _ => rfl) ?_
        refine w_st rfl (fun _ => rfl) ?_
        refine w_st rfl (fun _ => rfl) ?_
        show w_T L xs 60 m_L_law 854 [(3, .int (Int32.ofInt (i : Int))), (2, .ref 100), (1, .ref 1), (0, .ref 0)] [.int ((Int32.ofInt (i : Int)) + (Int32.ofInt 1)), .ref 0, .ref 100] S1 R1 Q
        refine w_sld rfl (by first | (rw [← Int32.ofInt_add, q_ofr (by omega) (by omega)]; omega) | (rw [w_nat (by omega)]; omega)) (by first | (rw [← Int32.ofInt_add, q_ofr (by omega) (by omega)]; omega) | (rw [w_nat (by omega)]; omega)) ?_
        refine w_st rfl (fun _ => rfl) ?_
        refine w_st rfl (fun _ => rfl) ?_
        refine w_st rfl (fun _ => rfl) ?_
        refine w_st rfl (fun _ => rfl) ?_
        show w_T L xs 60 m_L_law 859 [(3, .int (Int32.ofInt (i : Int))), (2, .ref 100), (1, .ref 1), (0, .ref 0)] [.int ((Int32.ofInt (i : Int)) + (Int32.ofInt 2)), .ref 0, .int (xs ((Int32.ofInt (i : Int)) + (Int32.ofInt 1)).toInt.toNat), .ref 100] S1 R1 Q
        refine w_sld rfl (by first | (rw [← Int32.ofInt_add, q_ofr (by omega) (by omega)]; omega) | (rw [w_nat (by omega)]; omega)) (by first | (rw [← Int32.ofInt_add, q_ofr (by omega) (by omega)]; omega) | (rw [w_nat (by omega)]; omega)) ?_
        refine w_st rfl (fun _ => rfl) ?_
        refine w_st rfl (fun _ => rfl) ?_
        refine w_st rfl (fun _ => rfl) ?_
        refine w_st rfl (fun _ => rfl) ?_
        show w_T L xs 60 m_L_law 864 [(3, .int (Int32.ofInt (i : Int))), (2, .ref 100), (1, .ref 1), (0, .ref 0)] [.int ((Int32.ofInt (i : Int)) + (Int32.ofInt 3)), .ref 0, .int (xs ((Int32.ofInt (i : Int)) + (Int32.ofInt 2)).toInt.toNat), .int (xs ((Int32.ofInt (i : Int)) + (Int32.ofInt 1)).toInt.toNat), .ref 100] S1 R1 Q
        refine w_sld rfl (by first | (rw [← Int32.ofInt_add, q_ofr (by omega) (by omega)]; omega) | (rw [w_nat (by omega)]; omega)) (by first | (rw [← Int32.ofInt_add, q_ofr (by omega) (by omega)]; omega) | (rw [w_nat (by omega)]; omega)) ?_
        show w_T L xs 60 m_L_law 865 [(3, .int (Int32.ofInt (i : Int))), (2, .ref 100), (1, .ref 1), (0, .ref 0)] [.int (xs ((Int32.ofInt (i : Int)) + (Int32.ofInt 3)).toInt.toNat), .int (xs ((Int32.ofInt (i : Int)) + (Int32.ofInt 2)).toInt.toNat), .int (xs ((Int32.ofInt (i : Int)) + (Int32.ofInt 1)).toInt.toNat), .ref 100] S1 R1 Q
        refine w_cv rfl (by decide) mt_X12_housed v_tyM rfl rfl rfl (Nat.le_of_ble_eq_true rfl) (Nat.le_of_ble_eq_true rfl) (Nat.le_of_ble_eq_true rfl) ?_
        show w_T L xs _ m_X12_housed 0 (lv_args 0 [.ref 100, .int (xs ((Int32.ofInt (i : Int)) + (Int32.ofInt 1)).toInt.toNat), .int (xs ((Int32.ofInt (i : Int)) + (Int32.ofInt 2)).toInt.toNat), .int (xs ((Int32.ofInt (i : Int)) + (Int32.ofInt 3)).toInt.toNat)]) [] S1 R1 _
        refine b_X12_housed _ _ _ hT1 hO1 hK1 (fun S2 R2 u2 hT2 hO2 hK2 => ?_)
        refine w_st rfl (fun _ => rfl) ?_
        refine w_st rfl (fun _ => rfl) ?_
        show w_T L xs 60 m_L_law 1446 [(3, .int (Int32.ofInt (i : Int))), (2, .ref 100), (1, .ref 1), (0, .ref 0)] [] S2 R2 Q
        exact tail S2 R2 hT2 hO2 hK2
      | 18, hk =>
        obtain rfl : (839 : Int) = o := Option.some.inj hk
        refine ⟨872, by decide, ?_⟩
        refine w_st rfl (fun _ => rfl) ?_
        refine w_st rfl (fun _ => rfl) ?_
        refine w_st rfl (fun _ => rfl) ?_
        refine w_st rfl (fun _ => rfl) ?_
        refine w_st rfl (fun _ => rfl) ?_
        show w_T L xs 60 m_L_law 877 [(3, .int (Int32.ofInt (i : Int))), (2, .ref 100), (1, .ref 1), (0, .ref 0)] [.int ((Int32.ofInt (i : Int)) + (Int32.ofInt 1)), .ref 0, .ref 1] S R Q
        refine w_sld rfl (by first | (rw [← Int32.ofInt_add, q_ofr (by omega) (by omega)]; omega) | (rw [w_nat (by omega)]; omega)) (by first | (rw [← Int32.ofInt_add, q_ofr (by omega) (by omega)]; omega) | (rw [w_nat (by omega)]; omega)) ?_
        refine w_st rfl (fun _ => rfl) ?_
        refine w_st rfl (fun _ => rfl) ?_
        refine w_st rfl (fun _ => rfl) ?_
        refine w_st rfl (fun _ => rfl) ?_
        show w_T L xs 60 m_L_law 882 [(3, .int (Int32.ofInt (i : Int))), (2, .ref 100), (1, .ref 1), (0, .ref 0)] [.int ((Int32.ofInt (i : Int)) + (Int32.ofInt 2)), .ref 0, .int (xs ((Int32.ofInt (i : Int)) + (Int32.ofInt 1)).toInt.toNat), .ref 1] S R Q
        refine w_sld rfl (by first | (rw [← Int32.ofInt_add, q_ofr (by omega) (by omega)]; omega) | (rw [w_nat (by omega)]; omega)) (by first | (rw [← Int32.ofInt_add, q_ofr (by omega) (by omega)]; omega) | (rw [w_nat (by omega)]; omega)) ?_
        refine w_st rfl (fun _ => rfl) ?_
        refine w_st rfl (fun _ => rfl) ?_
        refine w_st rfl (fun _ => rfl) ?_
        refine w_st rfl (fun _ => rfl) ?_
        show w_T L xs 60 m_L_law 887 [(3, .int (Int32.ofInt (i : Int))), (2, .ref 100), (1, .ref 1), (0, .ref 0)] [.int ((Int32.ofInt (i : Int)) + (Int32.ofInt 3)), .ref 0, .int (xs ((Int32.ofInt (i : Int)) + (Int32.ofInt 2)).toInt.toNat), .int (xs ((Int32.ofInt (i : Int)) + (Int32.ofInt 1)).toInt.toNat), .ref 1] S R Q
        refine w_sld rfl (by first | (rw [← Int32.ofInt_add, q_ofr (by omega) (by omega)]; omega) | (rw [w_nat (by omega)]; omega)) (by first | (rw [← Int32.ofInt_add, q_ofr (by omega) (by omega)]; omega) | (rw [w_nat (by omega)]; omega)) ?_
        show w_T L xs 60 m_L_law 888 [(3, .int (Int32.ofInt (i : Int))), (2, .ref 100), (1, .ref 1), (0, .ref 0)] [.int (xs ((Int32.ofInt (i : Int)) + (Int32.ofInt 3)).toInt.toNat), .int (xs ((Int32.ofInt (i : Int)) + (Int32.ofInt 2)).toInt.toNat), .int (xs ((Int32.ofInt (i : Int)) + (Int32.ofInt 1)).toInt.toNat), .ref 1] S R Q
        refine w_cv rfl (by decide) mt_X11_wind v_tyC rfl rfl rfl (Nat.le_of_ble_eq_true rfl) (Nat.le_of_ble_eq_true rfl) (Nat.le_of_ble_eq_true rfl) ?_
        show w_T L xs _ m_X11_wind 0 (lv_args 0 [.ref 1, .int (xs ((Int32.ofInt (i : Int)) + (Int32.ofInt 1)).toInt.toNat), .int (xs ((Int32.ofInt (i : Int)) + (Int32.ofInt 2)).toInt.toNat), .int (xs ((Int32.ofInt (i : Int)) + (Int32.ofInt 3)).toInt.toNat)]) [] S R _
        refine b_X11_wind _ _ _ hT hO hK (fun S1 R1 hT1 hO1 hP1 => ?_)
        refine w_st rfl (fun _ => rfl) ?_
        refine w_st rfl (fun _ => rfl) ?_
        refine w_st rfl (fun _ => rfl) ?_
        refine w_st rfl (fun _ => rfl) ?_
        refine w_st rfl (fun _ => rfl) ?_
        refine w_st rfl (fun _ => rfl) ?_
        show w_T L xs 60 m_L_law 897 [(3, .int (Int32.ofInt (i : Int))), (2, .ref 100), (1, .ref 1), (0, .ref 0)] [.int ((Int32.ofInt (i : Int)) + (Int32.ofInt 1)), .ref 0, .ref 100] S1 R1 Q
        refine w_sld rfl (by first | (rw [← Int32.ofInt_add, q_ofr (by omega) (by omega)]; omega) | (rw [w_nat (by omega)]; omega)) (by first | (rw [← Int32.ofInt_add, q_ofr (by omega) (by omega)]; omega) | (rw [w_nat (by omega)]; omega)) ?_
        refine w_st rfl (fun _ => rfl) ?_
        refine w_st rfl (fun _ => rfl) ?_
        refine w_st rfl (fun _ => rfl) ?_
        refine w_st rfl (fun _ => rfl) ?_
        show w_T L xs 60 m_L_law 902 [(3, .int (Int32.ofInt (i : Int))), (2, .ref 100), (1, .ref 1), (0, .ref 0)] [.int ((Int32.ofInt (i : Int)) + (Int32.ofInt 2)), .ref 0, .int (xs ((Int32.ofInt (i : Int)) + (Int32.ofInt 1)).toInt.toNat), .ref 100] S1 R1 Q
        refine w_sld rfl (by first | (rw [← Int32.ofInt_add, q_ofr (by omega) (by omega)]; omega) | (rw [w_nat (by omega)]; omega)) (by first | (rw [← Int32.ofInt_add, q_ofr (by omega) (by omega)]; omega) | (rw [w_nat (by omega)]; omega)) ?_
        refine w_st rfl (fun _ => rfl) ?_
        refine w_st rfl (fun _ => rfl) ?_
        refine w_st rfl (fun _ => rfl) ?_
        refine w_st rfl (fun _ => rfl) ?_
        show w_T L xs 60 m_L_law 907 [(3, .int (Int32.ofInt (i : Int))), (2, .ref 100), (1, .ref 1), (0, .ref 0)] [.int ((Int32.ofInt (i : Int)) + (Int32.ofInt 3)), .ref 0, .int (xs ((Int32.ofInt (i : Int)) + (Int32.ofInt 2)).toInt.toNat), .int (xs ((Int32.ofInt (i : Int)) + (Int32.ofInt 1)).toInt.toNat), .ref 100] S1 R1 Q
        refine w_sld rfl (by first | (rw [← Int32.ofInt_add, q_ofr (by omega) (by omega)]; omega) | (rw [w_nat (by omega)]; omega)) (by first | (rw [← Int32.ofInt_add, q_ofr (by omega) (by omega)]; omega) | (rw [w_nat (by omega)]; omega)) ?_
        show w_T L xs 60 m_L_law 908 [(3, .int (Int32.ofInt (i : Int))), (2, .ref 100), (1, .ref 1), (0, .ref 0)] [.int (xs ((Int32.ofInt (i : Int)) + (Int32.ofInt 3)).toInt.toNat), .int (xs ((Int32.ofInt (i : Int)) + (Int32.ofInt 2)).toInt.toNat), .int (xs ((Int32.ofInt (i : Int)) + (Int32.ofInt 1)).toInt.toNat), .ref 100] S1 R1 Q
        refine w_cv rfl (by decide) mt_X12_wind v_tyM rfl rfl rfl (Nat.le_of_ble_eq_true rfl) (Nat.le_of_ble_eq_true rfl) (Nat.le_of_ble_eq_true rfl) ?_
        show w_T L xs _ m_X12_wind 0 (lv_args 0 [.ref 100, .int (xs ((Int32.ofInt (i : Int)) + (Int32.ofInt 1)).toInt.toNat), .int (xs ((Int32.ofInt (i : Int)) + (Int32.ofInt 2)).toInt.toNat), .int (xs ((Int32.ofInt (i : Int)) + (Int32.ofInt 3)).toInt.toNat)]) [] S1 R1 _
        refine b_X12_wind _ _ _ hT1 hO1 hP1 (fun S2 R2 hT2 hO2 hK2 => ?_)
        refine w_st rfl (fun _ => rfl) ?_
        refine w_st rfl (fun _ => rfl) ?_
        show w_T L xs 60 m_L_law 1446 [(3, .int (Int32.ofInt (i : Int))), (2, .ref 100), (1, .ref 1), (0, .ref 0)] [] S2 R2 Q
        exact tail S2 R2 hT2 hO2 hK2
      | 19, hk =>
        obtain rfl : (882 : Int) = o := Option.some.inj hk
        refine ⟨915, by decide, ?_⟩
        refine w_st rfl (fun _ => rfl) ?_
        refine w_st rfl (fun _ => rfl) ?_
        refine w_st rfl (fun _ => rfl) ?_
        refine w_st rfl (fun _ => rfl) ?_
        refine w_st rfl (fun _ => rfl) ?_
        show w_T L xs 60 m_L_law 920 [(3, .int (Int32.ofInt (i : Int))), (2, .ref 100), (1, .ref 1), (0, .ref 0)] [.int ((Int32.ofInt (i : Int)) + (Int32.ofInt 1)), .ref 0, .ref 1] S R Q
        refine w_sld rfl (by first | (rw [← Int32.ofInt_add, q_ofr (by omega) (by omega)]; omega) | (rw [w_nat (by omega)]; omega)) (by first | (rw [← Int32.ofInt_add, q_ofr (by omega) (by omega)]; omega) | (rw [w_nat (by omega)]; omega)) ?_
        refine w_st rfl (fun _ => rfl) ?_
        refine w_st rfl (fun _ => rfl) ?_
        refine w_st rfl (fun _ => rfl) ?_
        refine w_st rfl (fun _ => rfl) ?_
        show w_T L xs 60 m_L_law 925 [(3, .int (Int32.ofInt (i : Int))), (2, .ref 100), (1, .ref 1), (0, .ref 0)] [.int ((Int32.ofInt (i : Int)) + (Int32.ofInt 2)), .ref 0, .int (xs ((Int32.ofInt (i : Int)) + (Int32.ofInt 1)).toInt.toNat), .ref 1] S R Q
        refine w_sld rfl (by first | (rw [← Int32.ofInt_add, q_ofr (by omega) (by omega)]; omega) | (rw [w_nat (by omega)]; omega)) (by first | (rw [← Int32.ofInt_add, q_ofr (by omega) (by omega)]; omega) | (rw [w_nat (by omega)]; omega)) ?_
        show w_T L xs 60 m_L_law 926 [(3, .int (Int32.ofInt (i : Int))), (2, .ref 100), (1, .ref 1), (0, .ref 0)] [.int (xs ((Int32.ofInt (i : Int)) + (Int32.ofInt 2)).toInt.toNat), .int (xs ((Int32.ofInt (i : Int)) + (Int32.ofInt 1)).toInt.toNat), .ref 1] S R Q
        refine w_cv rfl (by decide) mt_X11_leaving v_tyC rfl rfl rfl (Nat.le_of_ble_eq_true rfl) (Nat.le_of_ble_eq_true rfl) (Nat.le_of_ble_eq_true rfl) ?_
        show w_T L xs _ m_X11_leaving 0 (lv_args 0 [.ref 1, .int (xs ((Int32.ofInt (i : Int)) + (Int32.ofInt 1)).toInt.toNat), .int (xs ((Int32.ofInt (i : Int)) + (Int32.ofInt 2)).toInt.toNat)]) [] S R _
        refine b_X11_leaving _ _ hT hO hK (fun S1 R1 hT1 hO1 hP1 => ?_)
        refine w_st rfl (fun _ => rfl) ?_
        refine w_st rfl (fun _ => rfl) ?_
        refine w_st rfl (fun _ => rfl) ?_
        refine w_st rfl (fun _ => rfl) ?_
        refine w_st rfl (fun _ => rfl) ?_
        refine w_st rfl (fun _ => rfl) ?_
        show w_T L xs 60 m_L_law 935 [(3, .int (Int32.ofInt (i : Int))), (2, .ref 100), (1, .ref 1), (0, .ref 0)] [.int ((Int32.ofInt (i : Int)) + (Int32.ofInt 1)), .ref 0, .ref 100] S1 R1 Q
        refine w_sld rfl (by first | (rw [← Int32.ofInt_add, q_ofr (by omega) (by omega)]; omega) | (rw [w_nat (by omega)]; omega)) (by first | (rw [← Int32.ofInt_add, q_ofr (by omega) (by omega)]; omega) | (rw [w_nat (by omega)]; omega)) ?_
        refine w_st rfl (fun _ => rfl) ?_
        refine w_st rfl (fun _ => rfl) ?_
        refine w_st rfl (fun _ => rfl) ?_
        refine w_st rfl (fun _ => rfl) ?_
        show w_T L xs 60 m_L_law 940 [(3, .int (Int32.ofInt (i : Int))), (2, .ref 100), (1, .ref 1), (0, .ref 0)] [.int ((Int32.ofInt (i : Int)) + (Int32.ofInt 2)), .ref 0, .int (xs ((Int32.ofInt (i : Int)) + (Int32.ofInt 1)).toInt.toNat), .ref 100] S1 R1 Q
        refine w_sld rfl (by first | (rw [← Int32.ofInt_add, q_ofr (by omega) (by omega)]; omega) | (rw [w_nat (by omega)]; omega)) (by first | (rw [← Int32.ofInt_add, q_ofr (by omega) (by omega)]; omega) | (rw [w_nat (by omega)]; omega)) ?_
        show w_T L xs 60 m_L_law 941 [(3, .int (Int32.ofInt (i : Int))), (2, .ref 100), (1, .ref 1), (0, .ref 0)] [.int (xs ((Int32.ofInt (i : Int)) + (Int32.ofInt 2)).toInt.toNat), .int (xs ((Int32.ofInt (i : Int)) + (Int32.ofInt 1)).toInt.toNat), .ref 100] S1 R1 Q
        refine w_cv rfl (by decide) mt_X12_leaving v_tyM rfl rfl rfl (Nat.le_of_ble_eq_true rfl) (Nat.le_of_ble_eq_true rfl) (Nat.le_of_ble_eq_true rfl) ?_
        show w_T L xs _ m_X12_leaving 0 (lv_args 0 [.ref 100, .int (xs ((Int32.ofInt (i : Int)) + (Int32.ofInt 1)).toInt.toNat), .int (xs ((Int32.ofInt (i : Int)) + (Int32.ofInt 2)).toInt.toNat)]) [] S1 R1 _
        refine b_X12_leaving _ _ hT1 hO1 hP1 (fun S2 R2 hT2 hO2 hK2 => ?_)
        refine w_st rfl (fun _ => rfl) ?_
        refine w_st rfl (fun _ => rfl) ?_
        show w_T L xs 60 m_L_law 1446 [(3, .int (Int32.ofInt (i : Int))), (2, .ref 100), (1, .ref 1), (0, .ref 0)] [] S2 R2 Q
        exact tail S2 R2 hT2 hO2 hK2
      | 20, hk =>
        obtain rfl : (915 : Int) = o := Option.some.inj hk
        refine ⟨948, by decide, ?_⟩
        refine w_st rfl (fun _ => rfl) ?_
        refine w_st rfl (fun _ => rfl) ?_
        refine w_st rfl (fun _ => rfl) ?_
        refine w_st rfl (fun _ => rfl) ?_
        refine w_st rfl (fun _ => rfl) ?_
        show w_T L xs 60 m_L_law 953 [(3, .int (Int32.ofInt (i : Int))), (2, .ref 100), (1, .ref 1), (0, .ref 0)] [.int ((Int32.ofInt (i : Int)) + (Int32.ofInt 1)), .ref 0, .ref 1] S R Q
        refine w_sld rfl (by first | (rw [← Int32.ofInt_add, q_ofr (by omega) (by omega)]; omega) | (rw [w_nat (by omega)]; omega)) (by first | (rw [← Int32.ofInt_add, q_ofr (by omega) (by omega)]; omega) | (rw [w_nat (by omega)]; omega)) ?_
        show w_T L xs 60 m_L_law 954 [(3, .int (Int32.ofInt (i : Int))), (2, .ref 100), (1, .ref 1), (0, .ref 0)] [.int (xs ((Int32.ofInt (i : Int)) + (Int32.ofInt 1)).toInt.toNat), .ref 1] S R Q
        refine w_cv rfl (by decide) mt_X11_letGo v_tyC rfl rfl rfl (Nat.le_of_ble_eq_true rfl) (Nat.le_of_ble_eq_true rfl) (Nat.le_of_ble_eq_true rfl) ?_
        show w_T L xs _ m_X11_letGo 0 (lv_args 0 [.ref 1, .int (xs ((Int32.ofInt (i : Int)) + (Int32.ofInt 1)).toInt.toNat)]) [] S R _
        refine b_X11_letGo _ hT hO hK (fun S1 R1 hT1 hO1 hP1 => ?_)
        refine w_st rfl (fun _ => rfl) ?_
        refine w_st rfl (fun _ => rfl) ?_
        refine w_st rfl (fun _ => rfl) ?_
        refine w_st rfl (fun _ => rfl) ?_
        refine w_st rfl (fun _ => rfl) ?_
        refine w_st rfl (fun _ => rfl) ?_
        show w_T L xs 60 m_L_law 963 [(3, .int (Int32.ofInt (i : Int))), (2, .ref 100), (1, .ref 1), (0, .ref 0)] [.int ((Int32.ofInt (i : Int)) + (Int32.ofInt 1)), .ref 0, .ref 100] S1 R1 Q
        refine w_sld rfl (by first | (rw [← Int32.ofInt_add, q_ofr (by omega) (by omega)]; omega) | (rw [w_nat (by omega)]; omega)) (by first | (rw [← Int32.ofInt_add, q_ofr (by omega) (by omega)]; omega) | (rw [w_nat (by omega)]; omega)) ?_
        show w_T L xs 60 m_L_law 964 [(3, .int (Int32.ofInt (i : Int))), (2, .ref 100), (1, .ref 1), (0, .ref 0)] [.int (xs ((Int32.ofInt (i : Int)) + (Int32.ofInt 1)).toInt.toNat), .ref 100] S1 R1 Q
        refine w_cv rfl (by decide) mt_X12_letGo v_tyM rfl rfl rfl (Nat.le_of_ble_eq_true rfl) (Nat.le_of_ble_eq_true rfl) (Nat.le_of_ble_eq_true rfl) ?_
        show w_T L xs _ m_X12_letGo 0 (lv_args 0 [.ref 100, .int (xs ((Int32.ofInt (i : Int)) + (Int32.ofInt 1)).toInt.toNat)]) [] S1 R1 _
        refine b_X12_letGo _ hT1 hO1 hP1 (fun S2 R2 hT2 hO2 hK2 => ?_)
        refine w_st rfl (fun _ => rfl) ?_
        refine w_st rfl (fun _ => rfl) ?_
        show w_T L xs 60 m_L_law 1446 [(3, .int (Int32.ofInt (i : Int))), (2, .ref 100), (1, .ref 1), (0, .ref 0)] [] S2 R2 Q
        exact tail S2 R2 hT2 hO2 hK2
      | 21, hk =>
        obtain rfl : (938 : Int) = o := Option.some.inj hk
        refine ⟨971, by decide, ?_⟩
        refine w_st rfl (fun _ => rfl) ?_
        refine w_st rfl (fun _ => rfl) ?_
        refine w_st rfl (fun _ => rfl) ?_
        refine w_st rfl (fun _ => rfl) ?_
        refine w_st rfl (fun _ => rfl) ?_
        show w_T L xs 60 m_L_law 976 [(3, .int (Int32.ofInt (i : Int))), (2, .ref 100), (1, .ref 1), (0, .ref 0)] [.int ((Int32.ofInt (i : Int)) + (Int32.ofInt 1)), .ref 0, .ref 1] S R Q
        refine w_sld rfl (by first | (rw [← Int32.ofInt_add, q_ofr (by omega) (by omega)]; omega) | (rw [w_nat (by omega)]; omega)) (by first | (rw [← Int32.ofInt_add, q_ofr (by omega) (by omega)]; omega) | (rw [w_nat (by omega)]; omega)) ?_
        refine w_st rfl (fun _ => rfl) ?_
        refine w_st rfl (fun _ => rfl) ?_
        refine w_st rfl (fun _ => rfl) ?_
        refine w_st rfl (fun _ => rfl) ?_
        show w_T L xs 60 m_L_law 981 [(3, .int (Int32.ofInt (i : Int))), (2, .ref 100), (1, .ref 1), (0, .ref 0)] [.int ((Int32.ofInt (i : Int)) + (Int32.ofInt 2)), .ref 0, .int (xs ((Int32.ofInt (i : Int)) + (Int32.ofInt 1)).toInt.toNat), .ref 1] S R Q
        refine w_sld rfl (by first | (rw [← Int32.ofInt_add, q_ofr (by omega) (by omega)]; omega) | (rw [w_nat (by omega)]; omega)) (by first | (rw [← Int32.ofInt_add, q_ofr (by omega) (by omega)]; omega) | (rw [w_nat (by omega)]; omega)) ?_
        show w_T L xs 60 m_L_law 982 [(3, .int (Int32.ofInt (i : Int))), (2, .ref 100), (1, .ref 1), (0, .ref 0)] [.int (xs ((Int32.ofInt (i : Int)) + (Int32.ofInt 2)).toInt.toNat), .int (xs ((Int32.ofInt (i : Int)) + (Int32.ofInt 1)).toInt.toNat), .ref 1] S R Q
        refine w_cv rfl (by decide) mt_X11_home v_tyC rfl rfl rfl (Nat.le_of_ble_eq_true rfl) (Nat.le_of_ble_eq_true rfl) (Nat.le_of_ble_eq_true rfl) ?_
        show w_T L xs _ m_X11_home 0 (lv_args 0 [.ref 1, .int (xs ((Int32.ofInt (i : Int)) + (Int32.ofInt 1)).toInt.toNat), .int (xs ((Int32.ofInt (i : Int)) + (Int32.ofInt 2)).toInt.toNat)]) [] S R _
        refine b_X11_home _ _ hT hO hK (fun S1 R1 hT1 hO1 hP1 => ?_)
        refine w_st rfl (fun _ => rfl) ?_
        refine w_st rfl (fun _ => rfl) ?_
        refine w_st rfl (fun _ => rfl) ?_
        refine w_st rfl (fun _ => rfl) ?_
        refine w_st rfl (fun _ => rfl) ?_
        refine w_st rfl (fun _ => rfl) ?_
        show w_T L xs 60 m_L_law 991 [(3, .int (Int32.ofInt (i : Int))), (2, .ref 100), (1, .ref 1), (0, .ref 0)] [.int ((Int32.ofInt (i : Int)) + (Int32.ofInt 1)), .ref 0, .ref 100] S1 R1 Q
        refine w_sld rfl (by first | (rw [← Int32.ofInt_add, q_ofr (by omega) (by omega)]; omega) | (rw [w_nat (by omega)]; omega)) (by first | (rw [← Int32.ofInt_add, q_ofr (by omega) (by omega)]; omega) | (rw [w_nat (by omega)]; omega)) ?_
        refine w_st rfl (fun _ => rfl) ?_
        refine w_st rfl (fun _ => rfl) ?_
        refine w_st rfl (fun _ => rfl) ?_
        refine w_st rfl (fun _ => rfl) ?_
        show w_T L xs 60 m_L_law 996 [(3, .int (Int32.ofInt (i : Int))), (2, .ref 100), (1, .ref 1), (0, .ref 0)] [.int ((Int32.ofInt (i : Int)) + (Int32.ofInt 2)), .ref 0, .int (xs ((Int32.ofInt (i : Int)) + (Int32.ofInt 1)).toInt.toNat), .ref 100] S1 R1 Q
        refine w_sld rfl (by first | (rw [← Int32.ofInt_add, q_ofr (by omega) (by omega)]; omega) | (rw [w_nat (by omega)]; omega)) (by first | (rw [← Int32.ofInt_add, q_ofr (by omega) (by omega)]; omega) | (rw [w_nat (by omega)]; omega)) ?_
        show w_T L xs 60 m_L_law 997 [(3, .int (Int32.ofInt (i : Int))), (2, .ref 100), (1, .ref 1), (0, .ref 0)] [.int (xs ((Int32.ofInt (i : Int)) + (Int32.ofInt 2)).toInt.toNat), .int (xs ((Int32.ofInt (i : Int)) + (Int32.ofInt 1)).toInt.toNat), .ref 100] S1 R1 Q
        refine w_cv rfl (by decide) mt_X12_home v_tyM rfl rfl rfl (Nat.le_of_ble_eq_true rfl) (Nat.le_of_ble_eq_true rfl) (Nat.le_of_ble_eq_true rfl) ?_
        show w_T L xs _ m_X12_home 0 (lv_args 0 [.ref 100, .int (xs ((Int32.ofInt (i : Int)) + (Int32.ofInt 1)).toInt.toNat), .int (xs ((Int32.ofInt (i : Int)) + (Int32.ofInt 2)).toInt.toNat)]) [] S1 R1 _
        refine b_X12_home _ _ hT1 hO1 hP1 (fun S2 R2 hT2 hO2 hK2 => ?_)
        refine w_st rfl (fun _ => rfl) ?_
        refine w_st rfl (fun _ => rfl) ?_
        show w_T L xs 60 m_L_law 1446 [(3, .int (Int32.ofInt (i : Int))), (2, .ref 100), (1, .ref 1), (0, .ref 0)] [] S2 R2 Q
        exact tail S2 R2 hT2 hO2 hK2
      | 22, hk =>
        obtain rfl : (971 : Int) = o := Option.some.inj hk
        refine ⟨1004, by decide, ?_⟩
        refine w_st rfl (fun _ => rfl) ?_
        refine w_st rfl (fun _ => rfl) ?_
        refine w_st rfl (fun _ => rfl) ?_
        refine w_st rfl (fun _ => rfl) ?_
        refine w_st rfl (fun _ => rfl) ?_
        show w_T L xs 60 m_L_law 1009 [(3, .int (Int32.ofInt (i : Int))), (2, .ref 100), (1, .ref 1), (0, .ref 0)] [.int ((Int32.ofInt (i : Int)) + (Int32.ofInt 1)), .ref 0, .ref 1] S R Q
        refine w_sld rfl (by first | (rw [← Int32.ofInt_add, q_ofr (by omega) (by omega)]; omega) | (rw [w_nat (by omega)]; omega)) (by first | (rw [← Int32.ofInt_add, q_ofr (by omega) (by omega)]; omega) | (rw [w_nat (by omega)]; omega)) ?_
        refine w_st rfl (fun _ => rfl) ?_
        refine w_st rfl (fun _ => rfl) ?_
        refine w_st rfl (fun _ => rfl) ?_
        refine w_st rfl (fun _ => rfl) ?_
        show w_T L xs 60 m_L_law 1014 [(3, .int (Int32.ofInt (i : Int))), (2, .ref 100), (1, .ref 1), (0, .ref 0)] [.int ((Int32.ofInt (i : Int)) + (Int32.ofInt 2)), .ref 0, .int (xs ((Int32.ofInt (i : Int)) + (Int32.ofInt 1)).toInt.toNat), .ref 1] S R Q
        refine w_sld rfl (by first | (rw [← Int32.ofInt_add, q_ofr (by omega) (by omega)]; omega) | (rw [w_nat (by omega)]; omega)) (by first | (rw [← Int32.ofInt_add, q_ofr (by omega) (by omega)]; omega) | (rw [w_nat (by omega)]; omega)) ?_
        refine w_st rfl (fun _ => rfl) ?_
        refine w_st rfl (fun _ => rfl) ?_
        refine w_st rfl (fun _ => rfl) ?_
        refine w_st rfl (fun _ => rfl) ?_
        show w_T L xs 60 m_L_law 1019 [(3, .int (Int32.ofInt (i : Int))), (2, .ref 100), (1, .ref 1), (0, .ref 0)] [.int ((Int32.ofInt (i : Int)) + (Int32.ofInt 3)), .ref 0, .int (xs ((Int32.ofInt (i : Int)) + (Int32.ofInt 2)).toInt.toNat), .int (xs ((Int32.ofInt (i : Int)) + (Int32.ofInt 1)).toInt.toNat), .ref 1] S R Q
        refine w_sld rfl (by first | (rw [← Int32.ofInt_add, q_ofr (by omega) (by omega)]; omega) | (rw [w_nat (by omega)]; omega)) (by first | (rw [← Int32.ofInt_add, q_ofr (by omega) (by omega)]; omega) | (rw [w_nat (by omega)]; omega)) ?_
        show w_T L xs 60 m_L_law 1020 [(3, .int (Int32.ofInt (i : Int))), (2, .ref 100), (1, .ref 1), (0, .ref 0)] [.int (xs ((Int32.ofInt (i : Int)) + (Int32.ofInt 3)).toInt.toNat), .int (xs ((Int32.ofInt (i : Int)) + (Int32.ofInt 2)).toInt.toNat), .int (xs ((Int32.ofInt (i : Int)) + (Int32.ofInt 1)).toInt.toNat), .ref 1] S R Q
        refine w_cv rfl (by decide) mt_X11_from v_tyC rfl rfl rfl (Nat.le_of_ble_eq_true rfl) (Nat.le_of_ble_eq_true rfl) (Nat.le_of_ble_eq_true rfl) ?_
        show w_T L xs _ m_X11_from 0 (lv_args 0 [.ref 1, .int (xs ((Int32.ofInt (i : Int)) + (Int32.ofInt 1)).toInt.toNat), .int (xs ((Int32.ofInt (i : Int)) + (Int32.ofInt 2)).toInt.toNat), .int (xs ((Int32.ofInt (i : Int)) + (Int32.ofInt 3)).toInt.toNat)]) [] S R _
        refine b_X11_from _ _ _ hT hO hK (fun S1 R1 u1 hT1 hO1 hK1 => ?_)
        refine w_st rfl (fun _ => rfl) ?_
        refine w_st rfl (fun _ => rfl) ?_
        refine w_st rfl (fun _ => rfl) ?_
        refine w_st rfl (fun _ => rfl) ?_
        refine w_st rfl (fun _ => rfl) ?_
        refine w_st rfl (fun _ => rfl) ?_
        show w_T L xs 60 m_L_law 1029 [(3, .int (Int32.ofInt (i : Int))), (2, .ref 100), (1, .ref 1), (0, .ref 0)] [.int ((Int32.ofInt (i : Int)) + (Int32.ofInt 1)), .ref 0, .ref 100] S1 R1 Q
        refine w_sld rfl (by first | (rw [← Int32.ofInt_add, q_ofr (by omega) (by omega)]; omega) | (rw [w_nat (by omega)]; omega)) (by first | (rw [← Int32.ofInt_add, q_ofr (by omega) (by omega)]; omega) | (rw [w_nat (by omega)]; omega)) ?_
        refine w_st rfl (fun _ => rfl) ?_
        refine w_st rfl (fun _ => rfl) ?_
        refine w_st rfl (fun _ => rfl) ?_
        refine w_st rfl (fun _ => rfl) ?_
        show w_T L xs 60 m_L_law 1034 [(3, .int (Int32.ofInt (i : Int))), (2, .ref 100), (1, .ref 1), (0, .ref 0)] [.int ((Int32.ofInt (i : Int)) + (Int32.ofInt 2)), .ref 0, .int (xs ((Int32.ofInt (i : Int)) + (Int32.ofInt 1)).toInt.toNat), .ref 100] S1 R1 Q
        refine w_sld rfl (by first | (rw [← Int32.ofInt_add, q_ofr (by omega) (by omega)]; omega) | (rw [w_nat (by omega)]; omega)) (by first | (rw [← Int32.ofInt_add, q_ofr (by omega) (by omega)]; omega) | (rw [w_nat (by omega)]; omega)) ?_
        refine w_st rfl (fun _ => rfl) ?_
        refine w_st rfl (fun _ => rfl) ?_
        refine w_st rfl (fun _ => rfl) ?_
        refine w_st rfl (fun _ => rfl) ?_
        show w_T L xs 60 m_L_law 1039 [(3, .int (Int32.ofInt (i : Int))), (2, .ref 100), (1, .ref 1), (0, .ref 0)] [.int ((Int32.ofInt (i : Int)) + (Int32.ofInt 3)), .ref 0, .int (xs ((Int32.ofInt (i : Int)) + (Int32.ofInt 2)).toInt.toNat), .int (xs ((Int32.ofInt (i : Int)) + (Int32.ofInt 1)).toInt.toNat), .ref 100] S1 R1 Q
        refine w_sld rfl (by first | (rw [← Int32.ofInt_add, q_ofr (by omega) (by omega)]; omega) | (rw [w_nat (by omega)]; omega)) (by first | (rw [← Int32.ofInt_add, q_ofr (by omega) (by omega)]; omega) | (rw [w_nat (by omega)]; omega)) ?_
        show w_T L xs 60 m_L_law 1040 [(3, .int (Int32.ofInt (i : Int))), (2, .ref 100), (1, .ref 1), (0, .ref 0)] [.int (xs ((Int32.ofInt (i : Int)) + (Int32.ofInt 3)).toInt.toNat), .int (xs ((Int32.ofInt (i : Int)) + (Int32.ofInt 2)).toInt.toNat), .int (xs ((Int32.ofInt (i : Int)) + (Int32.ofInt 1)).toInt.toNat), .ref 100] S1 R1 Q
        refine w_cv rfl (by decide) mt_X12_from v_tyM rfl rfl rfl (Nat.le_of_ble_eq_true rfl) (Nat.le_of_ble_eq_true rfl) (Nat.le_of_ble_eq_true rfl) ?_
        show w_T L xs _ m_X12_from 0 (lv_args 0 [.ref 100, .int (xs ((Int32.ofInt (i : Int)) + (Int32.ofInt 1)).toInt.toNat), .int (xs ((Int32.ofInt (i : Int)) + (Int32.ofInt 2)).toInt.toNat), .int (xs ((Int32.ofInt (i : Int)) + (Int32.ofInt 3)).toInt.toNat)]) [] S1 R1 _
        refine b_X12_from _ _ _ hT1 hO1 hK1 (fun S2 R2 u2 hT2 hO2 hK2 => ?_)
        refine w_st rfl (fun _ => rfl) ?_
        refine w_st rfl (fun _ => rfl) ?_
        show w_T L xs 60 m_L_law 1446 [(3, .int (Int32.ofInt (i : Int))), (2, .ref 100), (1, .ref 1), (0, .ref 0)] [] S2 R2 Q
        exact tail S2 R2 hT2 hO2 hK2
      | 23, hk =>
        obtain rfl : (1014 : Int) = o := Option.some.inj hk
        refine ⟨1047, by decide, ?_⟩
        refine w_st rfl (fun _ => rfl) ?_
        refine w_st rfl (fun _ => rfl) ?_
        refine w_st rfl (fun _ => rfl) ?_
        refine w_st rfl (fun _ => rfl) ?_
        refine w_st rfl (fun _ => rfl) ?_
        show w_T L xs 60 m_L_law 1052 [(3, .int (Int32.ofInt (i : Int))), (2, .ref 100), (1, .ref 1), (0, .ref 0)] [.int ((Int32.ofInt (i : Int)) + (Int32.ofInt 1)), .ref 0, .ref 1] S R Q
        refine w_sld rfl (by first | (rw [← Int32.ofInt_add, q_ofr (by omega) (by omega)]; omega) | (rw [w_nat (by omega)]; omega)) (by first | (rw [← Int32.ofInt_add, q_ofr (by omega) (by omega)]; omega) | (rw [w_nat (by omega)]; omega)) ?_
        refine w_st rfl (fun _ => rfl) ?_
        refine w_st rfl (fun _ => rfl) ?_
        refine w_st rfl (fun _ => rfl) ?_
        refine w_st rfl (fun _ => rfl) ?_
        show w_T L xs 60 m_L_law 1057 [(3, .int (Int32.ofInt (i : Int))), (2, .ref 100), (1, .ref 1), (0, .ref 0)] [.int ((Int32.ofInt (i : Int)) + (Int32.ofInt 2)), .ref 0, .int (xs ((Int32.ofInt (i : Int)) + (Int32.ofInt 1)).toInt.toNat), .ref 1] S R Q
        refine w_sld rfl (by first | (rw [← Int32.ofInt_add, q_ofr (by omega) (by omega)]; omega) | (rw [w_nat (by omega)]; omega)) (by first | (rw [← Int32.ofInt_add, q_ofr (by omega) (by omega)]; omega) | (rw [w_nat (by omega)]; omega)) ?_
        refine w_st rfl (fun _ => rfl) ?_
        refine w_st rfl (fun _ => rfl) ?_
        refine w_st rfl (fun _ => rfl) ?_
        refine w_st rfl (fun _ => rfl) ?_
        show w_T L xs 60 m_L_law 1062 [(3, .int (Int32.ofInt (i : Int))), (2, .ref 100), (1, .ref 1), (0, .ref 0)] [.int ((Int32.ofInt (i : Int)) + (Int32.ofInt 3)), .ref 0, .int (xs ((Int32.ofInt (i : Int)) + (Int32.ofInt 2)).toInt.toNat), .int (xs ((Int32.ofInt (i : Int)) + (Int32.ofInt 1)).toInt.toNat), .ref 1] S R Q
        refine w_sld rfl (by first | (rw [← Int32.ofInt_add, q_ofr (by omega) (by omega)]; omega) | (rw [w_nat (by omega)]; omega)) (by first | (rw [← Int32.ofInt_add, q_ofr (by omega) (by omega)]; omega) | (rw [w_nat (by omega)]; omega)) ?_
        show w_T L xs 60 m_L_law 1063 [(3, .int (Int32.ofInt (i : Int))), (2, .ref 100), (1, .ref 1), (0, .ref 0)] [.int (xs ((Int32.ofInt (i : Int)) + (Int32.ofInt 3)).toInt.toNat), .int (xs ((Int32.ofInt (i : Int)) + (Int32.ofInt 2)).toInt.toNat), .int (xs ((Int32.ofInt (i : Int)) + (Int32.ofInt 1)).toInt.toNat), .ref 1] S R Q
        refine w_cv rfl (by decide) mt_X11_taught v_tyC rfl rfl rfl (Nat.le_of_ble_eq_true rfl) (Nat.le_of_ble_eq_true rfl) (Nat.le_of_ble_eq_true rfl) ?_
        show w_T L xs _ m_X11_taught 0 (lv_args 0 [.ref 1, .int (xs ((Int32.ofInt (i : Int)) + (Int32.ofInt 1)).toInt.toNat), .int (xs ((Int32.ofInt (i : Int)) + (Int32.ofInt 2)).toInt.toNat), .int (xs ((Int32.ofInt (i : Int)) + (Int32.ofInt 3)).toInt.toNat)]) [] S R _
        refine b_X11_taught _ _ _ hT hO hK (fun S1 R1 u1 hT1 hO1 hK1 => ?_)
        refine w_st rfl (fun _ => rfl) ?_
        refine w_st rfl (fun _ => rfl) ?_
        refine w_st rfl (fun _ => rfl) ?_
        refine w_st rfl (fun _ => rfl) ?_
        refine w_st rfl (fun _ => rfl) ?_
        refine w_st rfl (fun _ => rfl) ?_
        show w_T L xs 60 m_L_law 1072 [(3, .int (Int32.ofInt (i : Int))), (2, .ref 100), (1, .ref 1), (0, .ref 0)] [.int ((Int32.ofInt (i : Int)) + (Int32.ofInt 1)), .ref 0, .ref 100] S1 R1 Q
        refine w_sld rfl (by first | (rw [← Int32.ofInt_add, q_ofr (by omega) (by omega)]; omega) | (rw [w_nat (by omega)]; omega)) (by first | (rw [← Int32.ofInt_add, q_ofr (by omega) (by omega)]; omega) | (rw [w_nat (by omega)]; omega)) ?_
        refine w_st rfl (fun _ => rfl) ?_
        refine w_st rfl (fun _ => rfl) ?_
        refine w_st rfl (fun _ => rfl) ?_
        refine w_st rfl (fun _ => rfl) ?_
        show w_T L xs 60 m_L_law 1077 [(3, .int (Int32.ofInt (i : Int))), (2, .ref 100), (1, .ref 1), (0, .ref 0)] [.int ((Int32.ofInt (i : Int)) + (Int32.ofInt 2)), .ref 0, .int (xs ((Int32.ofInt (i : Int)) + (Int32.ofInt 1)).toInt.toNat), .ref 100] S1 R1 Q
        refine w_sld rfl (by first | (rw [← Int32.ofInt_add, q_ofr (by omega) (by omega)]; omega) | (rw [w_nat (by omega)]; omega)) (by first | (rw [← Int32.ofInt_add, q_ofr (by omega) (by omega)]; omega) | (rw [w_nat (by omega)]; omega)) ?_
        refine w_st rfl (fun _ => rfl) ?_
        refine w_st rfl (fun _ => rfl) ?_
        refine w_st rfl (fun _ => rfl) ?_
        refine w_st rfl (fun _ => rfl) ?_
        show w_T L xs 60 m_L_law 1082 [(3, .int (Int32.ofInt (i : Int))), (2, .ref 100), (1, .ref 1), (0, .ref 0)] [.int ((Int32.ofInt (i : Int)) + (Int32.ofInt 3)), .ref 0, .int (xs ((Int32.ofInt (i : Int)) + (Int32.ofInt 2)).toInt.toNat), .int (xs ((Int32.ofInt (i : Int)) + (Int32.ofInt 1)).toInt.toNat), .ref 100] S1 R1 Q
        refine w_sld rfl (by first | (rw [← Int32.ofInt_add, q_ofr (by omega) (by omega)]; omega) | (rw [w_nat (by omega)]; omega)) (by first | (rw [← Int32.ofInt_add, q_ofr (by omega) (by omega)]; omega) | (rw [w_nat (by omega)]; omega)) ?_
        show w_T L xs 60 m_L_law 1083 [(3, .int (Int32.ofInt (i : Int))), (2, .ref 100), (1, .ref 1), (0, .ref 0)] [.int (xs ((Int32.ofInt (i : Int)) + (Int32.ofInt 3)).toInt.toNat), .int (xs ((Int32.ofInt (i : Int)) + (Int32.ofInt 2)).toInt.toNat), .int (xs ((Int32.ofInt (i : Int)) + (Int32.ofInt 1)).toInt.toNat), .ref 100] S1 R1 Q
        refine w_cv rfl (by decide) mt_X12_taught v_tyM rfl rfl rfl (Nat.le_of_ble_eq_true rfl) (Nat.le_of_ble_eq_true rfl) (Nat.le_of_ble_eq_true rfl) ?_
        show w_T L xs _ m_X12_taught 0 (lv_args 0 [.ref 100, .int (xs ((Int32.ofInt (i : Int)) + (Int32.ofInt 1)).toInt.toNat), .int (xs ((Int32.ofInt (i : Int)) + (Int32.ofInt 2)).toInt.toNat), .int (xs ((Int32.ofInt (i : Int)) + (Int32.ofInt 3)).toInt.toNat)]) [] S1 R1 _
        refine b_X12_taught _ _ _ hT1 hO1 hK1 (fun S2 R2 u2 hT2 hO2 hK2 => ?_)
        refine w_st rfl (fun _ => rfl) ?_
        refine w_st rfl (fun _ => rfl) ?_
        show w_T L xs 60 m_L_law 1446 [(3, .int (Int32.ofInt (i : Int))), (2, .ref 100), (1, .ref 1), (0, .ref 0)] [] S2 R2 Q
        exact tail S2 R2 hT2 hO2 hK2
      | 24, hk =>
        obtain rfl : (1057 : Int) = o := Option.some.inj hk
        refine ⟨1090, by decide, ?_⟩
        refine w_st rfl (fun _ => rfl) ?_
        refine w_st rfl (fun _ => rfl) ?_
        refine w_st rfl (fun _ => rfl) ?_
        refine w_st rfl (fun _ => rfl) ?_
        refine w_st rfl (fun _ => rfl) ?_
        show w_T L xs 60 m_L_law 1095 [(3, .int (Int32.ofInt (i : Int))), (2, .ref 100), (1, .ref 1), (0, .ref 0)] [.int ((Int32.ofInt (i : Int)) + (Int32.ofInt 1)), .ref 0, .ref 1] S R Q
        refine w_sld rfl (by first | (rw [← Int32.ofInt_add, q_ofr (by omega) (by omega)]; omega) | (rw [w_nat (by omega)]; omega)) (by first | (rw [← Int32.ofInt_add, q_ofr (by omega) (by omega)]; omega) | (rw [w_nat (by omega)]; omega)) ?_
        refine w_st rfl (fun _ => rfl) ?_
        refine w_st rfl (fun _ => rfl) ?_
        refine w_st rfl (fun _ => rfl) ?_
        refine w_st rfl (fun _ => rfl) ?_
        show w_T L xs 60 m_L_law 1100 [(3, .int (Int32.ofInt (i : Int))), (2, .ref 100), (1, .ref 1), (0, .ref 0)] [.int ((Int32.ofInt (i : Int)) + (Int32.ofInt 2)), .ref 0, .int (xs ((Int32.ofInt (i : Int)) + (Int32.ofInt 1)).toInt.toNat), .ref 1] S R Q
        refine w_sld rfl (by first | (rw [← Int32.ofInt_add, q_ofr (by omega) (by omega)]; omega) | (rw [w_nat (by omega)]; omega)) (by first | (rw [← Int32.ofInt_add, q_ofr (by omega) (by omega)]; omega) | (rw [w_nat (by omega)]; omega)) ?_
        refine w_st rfl (fun _ => rfl) ?_
        refine w_st rfl (fun _ => rfl) ?_
        refine w_st rfl (fun _ => rfl) ?_
        refine w_st rfl (fun _ => rfl) ?_
        show w_T L xs 60 m_L_law 1105 [(3, .int (Int32.ofInt (i : Int))), (2, .ref 100), (1, .ref 1), (0, .ref 0)] [.int ((Int32.ofInt (i : Int)) + (Int32.ofInt 3)), .ref 0, .int (xs ((Int32.ofInt (i : Int)) + (Int32.ofInt 2)).toInt.toNat), .int (xs ((Int32.ofInt (i : Int)) + (Int32.ofInt 1)).toInt.toNat), .ref 1] S R Q
        refine w_sld rfl (by first | (rw [← Int32.ofInt_add, q_ofr (by omega) (by omega)]; omega) | (rw [w_nat (by omega)]; omega)) (by first | (rw [← Int32.ofInt_add, q_ofr (by omega) (by omega)]; omega) | (rw [w_nat (by omega)]; omega)) ?_
        show w_T L xs 60 m_L_law 1106 [(3, .int (Int32.ofInt (i : Int))), (2, .ref 100), (1, .ref 1), (0, .ref 0)] [.int (xs ((Int32.ofInt (i : Int)) + (Int32.ofInt 3)).toInt.toNat), .int (xs ((Int32.ofInt (i : Int)) + (Int32.ofInt 2)).toInt.toNat), .int (xs ((Int32.ofInt (i : Int)) + (Int32.ofInt 1)).toInt.toNat), .ref 1] S R Q
        refine w_cv rfl (by decide) mt_X11_house v_tyC rfl rfl rfl (Nat.le_of_ble_eq_true rfl) (Nat.le_of_ble_eq_true rfl) (Nat.le_of_ble_eq_true rfl) ?_
        show w_T L xs _ m_X11_house 0 (lv_args 0 [.ref 1, .int (xs ((Int32.ofInt (i : Int)) + (Int32.ofInt 1)).toInt.toNat), .int (xs ((Int32.ofInt (i : Int)) + (Int32.ofInt 2)).toInt.toNat), .int (xs ((Int32.ofInt (i : Int)) + (Int32.ofInt 3)).toInt.toNat)]) [] S R _
        refine b_X11_house _ _ _ hT hO hK (fun S1 R1 hT1 hO1 hP1 => ?_)
        refine w_st rfl (fun _ => rfl) ?_
        refine w_st rfl (fun _ => rfl) ?_
        refine w_st rfl (fun _ => rfl) ?_
        refine w_st rfl (fun _ => rfl) ?_
        refine w_st rfl (fun _ => rfl) ?_
        refine w_st rfl (fun _ => rfl) ?_
        show w_T L xs 60 m_L_law 1115 [(3, .int (Int32.ofInt (i : Int))), (2, .ref 100), (1, .ref 1), (0, .ref 0)] [.int ((Int32.ofInt (i : Int)) + (Int32.ofInt 1)), .ref 0, .ref 100] S1 R1 Q
        refine w_sld rfl (by first | (rw [← Int32.ofInt_add, q_ofr (by omega) (by omega)]; omega) | (rw [w_nat (by omega)]; omega)) (by first | (rw [← Int32.ofInt_add, q_ofr (by omega) (by omega)]; omega) | (rw [w_nat (by omega)]; omega)) ?_
        refine w_st rfl (fun _ => rfl) ?_
        refine w_st rfl (fun _ => rfl) ?_
        refine w_st rfl (fun _ => rfl) ?_
        refine w_st rfl (fun _ => rfl) ?_
        show w_T L xs 60 m_L_law 1120 [(3, .int (Int32.ofInt (i : Int))), (2, .ref 100), (1, .ref 1), (0, .ref 0)] [.int ((Int32.ofInt (i : Int)) + (Int32.ofInt 2)), .ref 0, .int (xs ((Int32.ofInt (i : Int)) + (Int32.ofInt 1)).toInt.toNat), .ref 100] S1 R1 Q
        refine w_sld rfl (by first | (rw [← Int32.ofInt_add, q_ofr (by omega) (by omega)]; omega) | (rw [w_nat (by omega)]; omega)) (by first | (rw [← Int32.ofInt_add, q_ofr (by omega) (by omega)]; omega) | (rw [w_nat (by omega)]; omega)) ?_
        refine w_st rfl (fun _ => rfl) ?_
        refine w_st rfl (fun _ => rfl) ?_
        refine w_st rfl (fun _ => rfl) ?_
        refine w_st rfl (fun _ => rfl) ?_
        show w_T L xs 60 m_L_law 1125 [(3, .int (Int32.ofInt (i : Int))), (2, .ref 100), (1, .ref 1), (0, .ref 0)] [.int ((Int32.ofInt (i : Int)) + (Int32.ofInt 3)), .ref 0, .int (xs ((Int32.ofInt (i : Int)) + (Int32.ofInt 2)).toInt.toNat), .int (xs ((Int32.ofInt (i : Int)) + (Int32.ofInt 1)).toInt.toNat), .ref 100] S1 R1 Q
        refine w_sld rfl (by first | (rw [← Int32.ofInt_add, q_ofr (by omega) (by omega)]; omega) | (rw [w_nat (by omega)]; omega)) (by first | (rw [← Int32.ofInt_add, q_ofr (by omega) (by omega)]; omega) | (rw [w_nat (by omega)]; omega)) ?_
        show w_T L xs 60 m_L_law 1126 [(3, .int (Int32.ofInt (i : Int))), (2, .ref 100), (1, .ref 1), (0, .ref 0)] [.int (xs ((Int32.ofInt (i : Int)) + (Int32.ofInt 3)).toInt.toNat), .int (xs ((Int32.ofInt (i : Int)) + (Int32.ofInt 2)).toInt.toNat), .int (xs ((Int32.ofInt (i : Int)) + (Int32.ofInt 1)).toInt.toNat), .ref 100] S1 R1 Q
        refine w_cv rfl (by decide) mt_X12_house v_tyM rfl rfl rfl (Nat.le_of_ble_eq_true rfl) (Nat.le_of_ble_eq_true rfl) (Nat.le_of_ble_eq_true rfl) ?_
        show w_T L xs _ m_X12_house 0 (lv_args 0 [.ref 100, .int (xs ((Int32.ofInt (i : Int)) + (Int32.ofInt 1)).toInt.toNat), .int (xs ((Int32.ofInt (i : Int)) + (Int32.ofInt 2)).toInt.toNat), .int (xs ((Int32.ofInt (i : Int)) + (Int32.ofInt 3)).toInt.toNat)]) [] S1 R1 _
        refine b_X12_house _ _ _ hT1 hO1 hP1 (fun S2 R2 hT2 hO2 hK2 => ?_)
        refine w_st rfl (fun _ => rfl) ?_
        refine w_st rfl (fun _ => rfl) ?_
        show w_T L xs 60 m_L_law 1446 [(3, .int (Int32.ofInt (i : Int))), (2, .ref 100), (1, .ref 1), (0, .ref 0)] [] S2 R2 Q
        exact tail S2 R2 hT2 hO2 hK2
      | 25, hk =>
        obtain rfl : (1100 : Int) = o := Option.some.inj hk
        refine ⟨1133, by decide, ?_⟩
        refine w_st rfl (fun _ => rfl) ?_
        refine w_st rfl (fun _ => rfl) ?_
        refine w_st rfl (fun _ => rfl) ?_
        refine w_st rfl (fun _ => rfl) ?_
        refine w_st rfl (fun _ => rfl) ?_
        show w_T L xs 60 m_L_law 1138 [(3, .int (Int32.ofInt (i : Int))), (2, .ref 100), (1, .ref 1), (0, .ref 0)] [.int ((Int32.ofInt (i : Int)) + (Int32.ofInt 1)), .ref 0, .ref 1] S R Q
        refine w_sld rfl (by first | (rw [← Int32.ofInt_add, q_ofr (by omega) (by omega)]; omega) | (rw [w_nat (by omega)]; omega)) (by first | (rw [← Int32.ofInt_add, q_ofr (by omega) (by omega)]; omega) | (rw [w_nat (by omega)]; omega)) ?_
        refine w_st rfl (fun _ => rfl) ?_
        refine w_st rfl (fun _ => rfl) ?_
        refine w_st rfl (fun _ => rfl) ?_
        refine w_st rfl (fun _ => rfl) ?_
        show w_T L xs 60 m_L_law 1143 [(3, .int (Int32.ofInt (i : Int))), (2, .ref 100), (1, .ref 1), (0, .ref 0)] [.int ((Int32.ofInt (i : Int)) + (Int32.ofInt 2)), .ref 0, .int (xs ((Int32.ofInt (i : Int)) + (Int32.ofInt 1)).toInt.toNat), .ref 1] S R Q
        refine w_sld rfl (by first | (rw [← Int32.ofInt_add, q_ofr (by omega) (by omega)]; omega) | (rw [w_nat (by omega)]; omega)) (by first | (rw [← Int32.ofInt_add, q_ofr (by omega) (by omega)]; omega) | (rw [w_nat (by omega)]; omega)) ?_
        show w_T L xs 60 m_L_law 1144 [(3, .int (Int32.ofInt (i : Int))), (2, .ref 100), (1, .ref 1), (0, .ref 0)] [.int (xs ((Int32.ofInt (i : Int)) + (Int32.ofInt 2)).toInt.toNat), .int (xs ((Int32.ofInt (i : Int)) + (Int32.ofInt 1)).toInt.toNat), .ref 1] S R Q
        refine w_cv rfl (by decide) mt_X11_placed v_tyC rfl rfl rfl (Nat.le_of_ble_eq_true rfl) (Nat.le_of_ble_eq_true rfl) (Nat.le_of_ble_eq_true rfl) ?_
        show w_T L xs _ m_X11_placed 0 (lv_args 0 [.ref 1, .int (xs ((Int32.ofInt (i : Int)) + (Int32.ofInt 1)).toInt.toNat), .int (xs ((Int32.ofInt (i : Int)) + (Int32.ofInt 2)).toInt.toNat)]) [] S R _
        refine b_X11_placed _ _ hT hO hK (fun S1 R1 u1 hT1 hO1 hK1 => ?_)
        refine w_st rfl (fun _ => rfl) ?_
        refine w_st rfl (fun _ => rfl) ?_
        refine w_st rfl (fun _ => rfl) ?_
        refine w_st rfl (fun _ => rfl) ?_
        refine w_st rfl (fun _ => rfl) ?_
        refine w_st rfl (fun _ => rfl) ?_
        show w_T L xs 60 m_L_law 1153 [(3, .int (Int32.ofInt (i : Int))), (2, .ref 100), (1, .ref 1), (0, .ref 0)] [.int ((Int32.ofInt (i : Int)) + (Int32.ofInt 1)), .ref 0, .ref 100] S1 R1 Q
        refine w_sld rfl (by first | (rw [← Int32.ofInt_add, q_ofr (by omega) (by omega)]; omega) | (rw [w_nat (by omega)]; omega)) (by first | (rw [← Int32.ofInt_add, q_ofr (by omega) (by omega)]; omega) | (rw [w_nat (by omega)]; omega)) ?_
        refine w_st rfl (fun _ => rfl) ?_
        refine w_st rfl (fun _ => rfl) ?_
        refine w_st rfl (fun _ => rfl) ?_
        refine w_st rfl (fun _ => rfl) ?_
        show w_T L xs 60 m_L_law 1158 [(3, .int (Int32.ofInt (i : Int))), (2, .ref 100), (1, .ref 1), (0, .ref 0)] [.int ((Int32.ofInt (i : Int)) + (Int32.ofInt 2)), .ref 0, .int (xs ((Int32.ofInt (i : Int)) + (Int32.ofInt 1)).toInt.toNat), .ref 100] S1 R1 Q
        refine w_sld rfl (by first | (rw [← Int32.ofInt_add, q_ofr (by omega) (by omega)]; omega) | (rw [w_nat (by omega)]; omega)) (by first | (rw [← Int32.ofInt_add, q_ofr (by omega) (by omega)]; omega) | (rw [w_nat (by omega)]; omega)) ?_
        show w_T L xs 60 m_L_law 1159 [(3, .int (Int32.ofInt (i : Int))), (2, .ref 100), (1, .ref 1), (0, .ref 0)] [.int (xs ((Int32.ofInt (i : Int)) + (Int32.ofInt 2)).toInt.toNat), .int (xs ((Int32.ofInt (i : Int)) + (Int32.ofInt 1)).toInt.toNat), .ref 100] S1 R1 Q
        refine w_cv rfl (by decide) mt_X12_placed v_tyM rfl rfl rfl (Nat.le_of_ble_eq_true rfl) (Nat.le_of_ble_eq_true rfl) (Nat.le_of_ble_eq_true rfl) ?_
        show w_T L xs _ m_X12_placed 0 (lv_args 0 [.ref 100, .int (xs ((Int32.ofInt (i : Int)) + (Int32.ofInt 1)).toInt.toNat), .int (xs ((Int32.ofInt (i : Int)) + (Int32.ofInt 2)).toInt.toNat)]) [] S1 R1 _
        refine b_X12_placed _ _ hT1 hO1 hK1 (fun S2 R2 u2 hT2 hO2 hK2 => ?_)
        refine w_st rfl (fun _ => rfl) ?_
        refine w_st rfl (fun _ => rfl) ?_
        show w_T L xs 60 m_L_law 1446 [(3, .int (Int32.ofInt (i : Int))), (2, .ref 100), (1, .ref 1), (0, .ref 0)] [] S2 R2 Q
        exact tail S2 R2 hT2 hO2 hK2
      | 26, hk =>
        obtain rfl : (1133 : Int) = o := Option.some.inj hk
        refine ⟨1166, by decide, ?_⟩
        refine w_st rfl (fun _ => rfl) ?_
        refine w_st rfl (fun _ => rfl) ?_
        refine w_st rfl (fun _ => rfl) ?_
        refine w_st rfl (fun _ => rfl) ?_
        refine w_st rfl (fun _ => rfl) ?_
        show w_T L xs 60 m_L_law 1171 [(3, .int (Int32.ofInt (i : Int))), (2, .ref 100), (1, .ref 1), (0, .ref 0)] [.int ((Int32.ofInt (i : Int)) + (Int32.ofInt 1)), .ref 0, .ref 1] S R Q
        refine w_sld rfl (by first | (rw [← Int32.ofInt_add, q_ofr (by omega) (by omega)]; omega) | (rw [w_nat (by omega)]; omega)) (by first | (rw [← Int32.ofInt_add, q_ofr (by omega) (by omega)]; omega) | (rw [w_nat (by omega)]; omega)) ?_
        show w_T L xs 60 m_L_law 1172 [(3, .int (Int32.ofInt (i : Int))), (2, .ref 100), (1, .ref 1), (0, .ref 0)] [.int (xs ((Int32.ofInt (i : Int)) + (Int32.ofInt 1)).toInt.toNat), .ref 1] S R Q
        refine w_cv rfl (by decide) mt_X11_fair v_tyC rfl rfl rfl (Nat.le_of_ble_eq_true rfl) (Nat.le_of_ble_eq_true rfl) (Nat.le_of_ble_eq_true rfl) ?_
        show w_T L xs _ m_X11_fair 0 (lv_args 0 [.ref 1, .int (xs ((Int32.ofInt (i : Int)) + (Int32.ofInt 1)).toInt.toNat)]) [] S R _
        refine b_X11_fair _ hT hO hK (fun S1 R1 u1 hT1 hO1 hP1 => ?_)
        refine w_st rfl (fun _ => rfl) ?_
        refine w_st rfl (fun _ => rfl) ?_
        refine w_st rfl (fun _ => rfl) ?_
        refine w_st rfl (fun _ => rfl) ?_
        refine w_st rfl (fun _ => rfl) ?_
        refine w_st rfl (fun _ => rfl) ?_
        show w_T L xs 60 m_L_law 1181 [(3, .int (Int32.ofInt (i : Int))), (2, .ref 100), (1, .ref 1), (0, .ref 0)] [.int ((Int32.ofInt (i : Int)) + (Int32.ofInt 1)), .ref 0, .ref 100] S1 R1 Q
        refine w_sld rfl (by first | (rw [← Int32.ofInt_add, q_ofr (by omega) (by omega)]; omega) | (rw [w_nat (by omega)]; omega)) (by first | (rw [← Int32.ofInt_add, q_ofr (by omega) (by omega)]; omega) | (rw [w_nat (by omega)]; omega)) ?_
        show w_T L xs 60 m_L_law 1182 [(3, .int (Int32.ofInt (i : Int))), (2, .ref 100), (1, .ref 1), (0, .ref 0)] [.int (xs ((Int32.ofInt (i : Int)) + (Int32.ofInt 1)).toInt.toNat), .ref 100] S1 R1 Q
        refine w_cv rfl (by decide) mt_X12_fair v_tyM rfl rfl rfl (Nat.le_of_ble_eq_true rfl) (Nat.le_of_ble_eq_true rfl) (Nat.le_of_ble_eq_true rfl) ?_
        show w_T L xs _ m_X12_fair 0 (lv_args 0 [.ref 100, .int (xs ((Int32.ofInt (i : Int)) + (Int32.ofInt 1)).toInt.toNat)]) [] S1 R1 _
        refine b_X12_fair _ hT1 hO1 hP1 (fun S2 R2 hT2 hO2 hK2 => ?_)
        refine w_st rfl (fun _ => rfl) ?_
        refine w_st rfl (fun _ => rfl) ?_
        show w_T L xs 60 m_L_law 1446 [(3, .int (Int32.ofInt (i : Int))), (2, .ref 100), (1, .ref 1), (0, .ref 0)] [] S2 R2 Q
        exact tail S2 R2 hT2 hO2 hK2
      | 27, hk =>
        obtain rfl : (1156 : Int) = o := Option.some.inj hk
        refine ⟨1189, by decide, ?_⟩
        refine w_st rfl (fun _ => rfl) ?_
        refine w_st rfl (fun _ => rfl) ?_
        refine w_st rfl (fun _ => rfl) ?_
        refine w_st rfl (fun _ => rfl) ?_
        refine w_st rfl (fun _ => rfl) ?_
        show w_T L xs 60 m_L_law 1194 [(3, .int (Int32.ofInt (i : Int))), (2, .ref 100), (1, .ref 1), (0, .ref 0)] [.int ((Int32.ofInt (i : Int)) + (Int32.ofInt 1)), .ref 0, .ref 1] S R Q
        refine w_sld rfl (by first | (rw [← Int32.ofInt_add, q_ofr (by omega) (by omega)]; omega) | (rw [w_nat (by omega)]; omega)) (by first | (rw [← Int32.ofInt_add, q_ofr (by omega) (by omega)]; omega) | (rw [w_nat (by omega)]; omega)) ?_
        refine w_st rfl (fun _ => rfl) ?_
        refine w_st rfl (fun _ => rfl) ?_
        refine w_st rfl (fun _ => rfl) ?_
        refine w_st rfl (fun _ => rfl) ?_
        show w_T L xs 60 m_L_law 1199 [(3, .int (Int32.ofInt (i : Int))), (2, .ref 100), (1, .ref 1), (0, .ref 0)] [.int ((Int32.ofInt (i : Int)) + (Int32.ofInt 2)), .ref 0, .int (xs ((Int32.ofInt (i : Int)) + (Int32.ofInt 1)).toInt.toNat), .ref 1] S R Q
        refine w_sld rfl (by first | (rw [← Int32.ofInt_add, q_ofr (by omega) (by omega)]; omega) | (rw [w_nat (by omega)]; omega)) (by first | (rw [← Int32.ofInt_add, q_ofr (by omega) (by omega)]; omega) | (rw [w_nat (by omega)]; omega)) ?_
        refine w_st rfl (fun _ => rfl) ?_
        refine w_st rfl (fun _ => rfl) ?_
        refine w_st rfl (fun _ => rfl) ?_
        refine w_st rfl (fun _ => rfl) ?_
        show w_T L xs 60 m_L_law 1204 [(3, .int (Int32.ofInt (i : Int))), (2, .ref 100), (1, .ref 1), (0, .ref 0)] [.int ((Int32.ofInt (i : Int)) + (Int32.ofInt 3)), .ref 0, .int (xs ((Int32.ofInt (i : Int)) + (Int32.ofInt 2)).toInt.toNat), .int (xs ((Int32.ofInt (i : Int)) + (Int32.ofInt 1)).toInt.toNat), .ref 1] S R Q
        refine w_sld rfl (by first | (rw [← Int32.ofInt_add, q_ofr (by omega) (by omega)]; omega) | (rw [w_nat (by omega)]; omega)) (by first | (rw [← Int32.ofInt_add, q_ofr (by omega) (by omega)]; omega) | (rw [w_nat (by omega)]; omega)) ?_
        refine w_st rfl (fun _ => rfl) ?_
        refine w_st rfl (fun _ => rfl) ?_
        refine w_st rfl (fun _ => rfl) ?_
        refine w_st rfl (fun _ => rfl) ?_
        show w_T L xs 60 m_L_law 1209 [(3, .int (Int32.ofInt (i : Int))), (2, .ref 100), (1, .ref 1), (0, .ref 0)] [.int ((Int32.ofInt (i : Int)) + (Int32.ofInt 4)), .ref 0, .int (xs ((Int32.ofInt (i : Int)) + (Int32.ofInt 3)).toInt.toNat), .int (xs ((Int32.ofInt (i : Int)) + (Int32.ofInt 2)).toInt.toNat), .int (xs ((Int32.ofInt (i : Int)) + (Int32.ofInt 1)).toInt.toNat), .ref 1] S R Q
        refine w_sld rfl (by first | (rw [← Int32.ofInt_add, q_ofr (by omega) (by omega)]; omega) | (rw [w_nat (by omega)]; omega)) (by first | (rw [← Int32.ofInt_add, q_ofr (by omega) (by omega)]; omega) | (rw [w_nat (by omega)]; omega)) ?_
        show w_T L xs 60 m_L_law 1210 [(3, .int (Int32.ofInt (i : Int))), (2, .ref 100), (1, .ref 1), (0, .ref 0)] [.int (xs ((Int32.ofInt (i : Int)) + (Int32.ofInt 4)).toInt.toNat), .int (xs ((Int32.ofInt (i : Int)) + (Int32.ofInt 3)).toInt.toNat), .int (xs ((Int32.ofInt (i : Int)) + (Int32.ofInt 2)).toInt.toNat), .int (xs ((Int32.ofInt (i : Int)) + (Int32.ofInt 1)).toInt.toNat), .ref 1] S R Q
        refine w_cv rfl (by decide) mt_X11_escaped v_tyC rfl rfl rfl (Nat.le_of_ble_eq_true rfl) (Nat.le_of_ble_eq_true rfl) (Nat.le_of_ble_eq_true rfl) ?_
        show w_T L xs _ m_X11_escaped 0 (lv_args 0 [.ref 1, .int (xs ((Int32.ofInt (i : Int)) + (Int32.ofInt 1)).toInt.toNat), .int (xs ((Int32.ofInt (i : Int)) + (Int32.ofInt 2)).toInt.toNat), .int (xs ((Int32.ofInt (i : Int)) + (Int32.ofInt 3)).toInt.toNat), .int (xs ((Int32.ofInt (i : Int)) + (Int32.ofInt 4)).toInt.toNat)]) [] S R _
        refine b_X11_escaped _ _ _ _ hT hO hK (fun S1 R1 u1 hT1 hO1 hP1 => ?_)
        refine w_st rfl (fun _ => rfl) ?_
        refine w_st rfl (fun _ => rfl) ?_
        refine w_st rfl (fun _ => rfl) ?_
        refine w_st rfl (fun _ => rfl) ?_
        refine w_st rfl (fun _ => rfl) ?_
        refine w_st rfl (fun _ => rfl) ?_
        show w_T L xs 60 m_L_law 1219 [(3, .int (Int32.ofInt (i : Int))), (2, .ref 100), (1, .ref 1), (0, .ref 0)] [.int ((Int32.ofInt (i : Int)) + (Int32.ofInt 1)), .ref 0, .ref 100] S1 R1 Q
        refine w_sld rfl (by first | (rw [← Int32.ofInt_add, q_ofr (by omega) (by omega)]; omega) | (rw [w_nat (by omega)]; omega)) (by first | (rw [← Int32.ofInt_add, q_ofr (by omega) (by omega)]; omega) | (rw [w_nat (by omega)]; omega)) ?_
        refine w_st rfl (fun _ => rfl) ?_
        refine w_st rfl (fun _ => rfl) ?_
        refine w_st rfl (fun _ => rfl) ?_
        refine w_st rfl (fun _ => rfl) ?_
        show w_T L xs 60 m_L_law 1224 [(3, .int (Int32.ofInt (i : Int))), (2, .ref 100), (1, .ref 1), (0, .ref 0)] [.int ((Int32.ofInt (i : Int)) + (Int32.ofInt 2)), .ref 0, .int (xs ((Int32.ofInt (i : Int)) + (Int32.ofInt 1)).toInt.toNat), .ref 100] S1 R1 Q
        refine w_sld rfl (by first | (rw [← Int32.ofInt_add, q_ofr (by omega) (by omega)]; omega) | (rw [w_nat (by omega)]; omega)) (by first | (rw [← Int32.ofInt_add, q_ofr (by omega) (by omega)]; omega) | (rw [w_nat (by omega)]; omega)) ?_
        refine w_st rfl (fun _ => rfl) ?_
        refine w_st rfl (fun _ => rfl) ?_
        refine w_st rfl (fun _ => rfl) ?_
        refine w_st rfl (fun _ => rfl) ?_
        show w_T L xs 60 m_L_law 1229 [(3, .int (Int32.ofInt (i : Int))), (2, .ref 100), (1, .ref 1), (0, .ref 0)] [.int ((Int32.ofInt (i : Int)) + (Int32.ofInt 3)), .ref 0, .int (xs ((Int32.ofInt (i : Int)) + (Int32.ofInt 2)).toInt.toNat), .int (xs ((Int32.ofInt (i : Int)) + (Int32.ofInt 1)).toInt.toNat), .ref 100] S1 R1 Q
        refine w_sld rfl (by first | (rw [← Int32.ofInt_add, q_ofr (by omega) (by omega)]; omega) | (rw [w_nat (by omega)]; omega)) (by first | (rw [← Int32.ofInt_add, q_ofr (by omega) (by omega)]; omega) | (rw [w_nat (by omega)]; omega)) ?_
        refine w_st rfl (fun _ => rfl) ?_
        refine w_st rfl (fun _ => rfl) ?_
        refine w_st rfl (fun _ => rfl) ?_
        refine w_st rfl (fun _ => rfl) ?_
        show w_T L xs 60 m_L_law 1234 [(3, .int (Int32.ofInt (i : Int))), (2, .ref 100), (1, .ref 1), (0, .ref 0)] [.int ((Int32.ofInt (i : Int)) + (Int32.ofInt 4)), .ref 0, .int (xs ((Int32.ofInt (i : Int)) + (Int32.ofInt 3)).toInt.toNat), .int (xs ((Int32.ofInt (i : Int)) + (Int32.ofInt 2)).toInt.toNat), .int (xs ((Int32.ofInt (i : Int)) + (Int32.ofInt 1)).toInt.toNat), .ref 100] S1 R1 Q
        refine w_sld rfl (by first | (rw [← Int32.ofInt_add, q_ofr (by omega) (by omega)]; omega) | (rw [w_nat (by omega)]; omega)) (by first | (rw [← Int32.ofInt_add, q_ofr (by omega) (by omega)]; omega) | (rw [w_nat (by omega)]; omega)) ?_
        show w_T L xs 60 m_L_law 1235 [(3, .int (Int32.ofInt (i : Int))), (2, .ref 100), (1, .ref 1), (0, .ref 0)] [.int (xs ((Int32.ofInt (i : Int)) + (Int32.ofInt 4)).toInt.toNat), .int (xs ((Int32.ofInt (i : Int)) + (Int32.ofInt 3)).toInt.toNat), .int (xs ((Int32.ofInt (i : Int)) + (Int32.ofInt 2)).toInt.toNat), .int (xs ((Int32.ofInt (i : Int)) + (Int32.ofInt 1)).toInt.toNat), .ref 100] S1 R1 Q
        refine w_cv rfl (by decide) mt_X12_escaped v_tyM rfl rfl rfl (Nat.le_of_ble_eq_true rfl) (Nat.le_of_ble_eq_true rfl) (Nat.le_of_ble_eq_true rfl) ?_
        show w_T L xs _ m_X12_escaped 0 (lv_args 0 [.ref 100, .int (xs ((Int32.ofInt (i : Int)) + (Int32.ofInt 1)).toInt.toNat), .int (xs ((Int32.ofInt (i : Int)) + (Int32.ofInt 2)).toInt.toNat), .int (xs ((Int32.ofInt (i : Int)) + (Int32.ofInt 3)).toInt.toNat), .int (xs ((Int32.ofInt (i : Int)) + (Int32.ofInt 4)).toInt.toNat)]) [] S1 R1 _
        refine b_X12_escaped _ _ _ _ hT1 hO1 hP1 (fun S2 R2 hT2 hO2 hK2 => ?_)
        refine w_st rfl (fun _ => rfl) ?_
        refine w_st rfl (fun _ => rfl) ?_
        show w_T L xs 60 m_L_law 1446 [(3, .int (Int32.ofInt (i : Int))), (2, .ref 100), (1, .ref 1), (0, .ref 0)] [] S2 R2 Q
        exact tail S2 R2 hT2 hO2 hK2
      | 28, hk =>
        obtain rfl : (1209 : Int) = o := Option.some.inj hk
        refine ⟨1242, by decide, ?_⟩
        refine w_st rfl (fun _ => rfl) ?_
        refine w_st rfl (fun _ => rfl) ?_
        refine w_st rfl (fun _ => rfl) ?_
        refine w_st rfl (fun _ => rfl) ?_
        refine w_st rfl (fun _ => rfl) ?_
        show w_T L xs 60 m_L_law 1247 [(3, .int (Int32.ofInt (i : Int))), (2, .ref 100), (1, .ref 1), (0, .ref 0)] [.int ((Int32.ofInt (i : Int)) + (Int32.ofInt 1)), .ref 0, .ref 1] S R Q
        refine w_sld rfl (by first | (rw [← Int32.ofInt_add, q_ofr (by omega) (by omega)]; omega) | (rw [w_nat (by omega)]; omega)) (by first | (rw [← Int32.ofInt_add, q_ofr (by omega) (by omega)]; omega) | (rw [w_nat (by omega)]; omega)) ?_
        refine w_st rfl (fun _ => rfl) ?_
        refine w_st rfl (fun _ => rfl) ?_
        refine w_st rfl (fun _ => rfl) ?_
        refine w_st rfl (fun _ => rfl) ?_
        show w_T L xs 60 m_L_law 1252 [(3, .int (Int32.ofInt (i : Int))), (2, .ref 100), (1, .ref 1), (0, .ref 0)] [.int ((Int32.ofInt (i : Int)) + (Int32.ofInt 2)), .ref 0, .int (xs ((Int32.ofInt (i : Int)) + (Int32.ofInt 1)).toInt.toNat), .ref 1] S R Q
        refine w_sld rfl (by first | (rw [← Int32.ofInt_add, q_ofr (by omega) (by omega)]; omega) | (rw [w_nat (by omega)]; omega)) (by first | (rw [← Int32.ofInt_add, q_ofr (by omega) (by omega)]; omega) | (rw [w_nat (by omega)]; omega)) ?_
        refine w_st rfl (fun _ => rfl) ?_
        refine w_st rfl (fun _ => rfl) ?_
        refine w_st rfl (fun _ => rfl) ?_
        refine w_st rfl (fun _ => rfl) ?_
        show w_T L xs 60 m_L_law 1257 [(3, .int (Int32.ofInt (i : Int))), (2, .ref 100), (1, .ref 1), (0, .ref 0)] [.int ((Int32.ofInt (i : Int)) + (Int32.ofInt 3)), .ref 0, .int (xs ((Int32.ofInt (i : Int)) + (Int32.ofInt 2)).toInt.toNat), .int (xs ((Int32.ofInt (i : Int)) + (Int32.ofInt 1)).toInt.toNat), .ref 1] S R Q
        refine w_sld rfl (by first | (rw [← Int32.ofInt_add, q_ofr (by omega) (by omega)]; omega) | (rw [w_nat (by omega)]; omega)) (by first | (rw [← Int32.ofInt_add, q_ofr (by omega) (by omega)]; omega) | (rw [w_nat (by omega)]; omega)) ?_
        show w_T L xs 60 m_L_law 1258 [(3, .int (Int32.ofInt (i : Int))), (2, .ref 100), (1, .ref 1), (0, .ref 0)] [.int (xs ((Int32.ofInt (i : Int)) + (Int32.ofInt 3)).toInt.toNat), .int (xs ((Int32.ofInt (i : Int)) + (Int32.ofInt 2)).toInt.toNat), .int (xs ((Int32.ofInt (i : Int)) + (Int32.ofInt 1)).toInt.toNat), .ref 1] S R Q
        refine w_cv rfl (by decide) mt_X11_nursed v_tyC rfl rfl rfl (Nat.le_of_ble_eq_true rfl) (Nat.le_of_ble_eq_true rfl) (Nat.le_of_ble_eq_true rfl) ?_
        show w_T L xs _ m_X11_nursed 0 (lv_args 0 [.ref 1, .int (xs ((Int32.ofInt (i : Int)) + (Int32.ofInt 1)).toInt.toNat), .int (xs ((Int32.ofInt (i : Int)) + (Int32.ofInt 2)).toInt.toNat), .int (xs ((Int32.ofInt (i : Int)) + (Int32.ofInt 3)).toInt.toNat)]) [] S R _
        refine b_X11_nursed _ _ _ hT hO hK (fun S1 R1 u1 hT1 hO1 hK1 => ?_)
        refine w_st rfl (fun _ => rfl) ?_
        refine w_st rfl (fun _ => rfl) ?_
        refine w_st rfl (fun _ => rfl) ?_
        refine w_st rfl (fun _ => rfl) ?_
        refine w_st rfl (fun _ => rfl) ?_
        refine w_st rfl (fun _ => rfl) ?_
        show w_T L xs 60 m_L_law 1267 [(3, .int (Int32.ofInt (i : Int))), (2, .ref 100), (1, .ref 1), (0, .ref 0)] [.int ((Int32.ofInt (i : Int)) + (Int32.ofInt 1)), .ref 0, .ref 100] S1 R1 Q
        refine w_sld rfl (by first | (rw [← Int32.ofInt_add, q_ofr (by omega) (by omega)]; omega) | (rw [w_nat (by omega)]; omega)) (by first | (rw [← Int32.ofInt_add, q_ofr (by omega) (by omega)]; omega) | (rw [w_nat (by omega)]; omega)) ?_
        refine w_st rfl (fun _ => rfl) ?_
        refine w_st rfl (fun _ => rfl) ?_
        refine w_st rfl (fun _ => rfl) ?_
        refine w_st rfl (fun _ => rfl) ?_
        show w_T L xs 60 m_L_law 1272 [(3, .int (Int32.ofInt (i : Int))), (2, .ref 100), (1, .ref 1), (0, .ref 0)] [.int ((Int32.ofInt (i : Int)) + (Int32.ofInt 2)), .ref 0, .int (xs ((Int32.ofInt (i : Int)) + (Int32.ofInt 1)).toInt.toNat), .ref 100] S1 R1 Q
        refine w_sld rfl (by first | (rw [← Int32.ofInt_add, q_ofr (by omega) (by omega)]; omega) | (rw [w_nat (by omega)]; omega)) (by first | (rw [← Int32.ofInt_add, q_ofr (by omega) (by omega)]; omega) | (rw [w_nat (by omega)]; omega)) ?_
        refine w_st rfl (fun _ => rfl) ?_
        refine w_st rfl (fun _ => rfl) ?_
        refine w_st rfl (fun _ => rfl) ?_
        refine w_st rfl (fun _ => rfl) ?_
        show w_T L xs 60 m_L_law 1277 [(3, .int (Int32.ofInt (i : Int))), (2, .ref 100), (1, .ref 1), (0, .ref 0)] [.int ((Int32.ofInt (i : Int)) + (Int32.ofInt 3)), .ref 0, .int (xs ((Int32.ofInt (i : Int)) + (Int32.ofInt 2)).toInt.toNat), .int (xs ((Int32.ofInt (i : Int)) + (Int32.ofInt 1)).toInt.toNat), .ref 100] S1 R1 Q
        refine w_sld rfl (by first | (rw [← Int32.ofInt_add, q_ofr (by omega) (by omega)]; omega) | (rw [w_nat (by omega)]; omega)) (by first | (rw [← Int32.ofInt_add, q_ofr (by omega) (by omega)]; omega) | (rw [w_nat (by omega)]; omega)) ?_
        show w_T L xs 60 m_L_law 1278 [(3, .int (Int32.ofInt (i : Int))), (2, .ref 100), (1, .ref 1), (0, .ref 0)] [.int (xs ((Int32.ofInt (i : Int)) + (Int32.ofInt 3)).toInt.toNat), .int (xs ((Int32.ofInt (i : Int)) + (Int32.ofInt 2)).toInt.toNat), .int (xs ((Int32.ofInt (i : Int)) + (Int32.ofInt 1)).toInt.toNat), .ref 100] S1 R1 Q
        refine w_cv rfl (by decide) mt_X12_nursed v_tyM rfl rfl rfl (Nat.le_of_ble_eq_true rfl) (Nat.le_of_ble_eq_true rfl) (Nat.le_of_ble_eq_true rfl) ?_
        show w_T L xs _ m_X12_nursed 0 (lv_args 0 [.ref 100, .int (xs ((Int32.ofInt (i : Int)) + (Int32.ofInt 1)).toInt.toNat), .int (xs ((Int32.ofInt (i : Int)) + (Int32.ofInt 2)).toInt.toNat), .int (xs ((Int32.ofInt (i : Int)) + (Int32.ofInt 3)).toInt.toNat)]) [] S1 R1 _
        refine b_X12_nursed _ _ _ hT1 hO1 hK1 (fun S2 R2 u2 hT2 hO2 hK2 => ?_)
        refine w_st rfl (fun _ => rfl) ?_
        refine w_st rfl (fun _ => rfl) ?_
        show w_T L xs 60 m_L_law 1446 [(3, .int (Int32.ofInt (i : Int))), (2, .ref 100), (1, .ref 1), (0, .ref 0)] [] S2 R2 Q
        exact tail S2 R2 hT2 hO2 hK2
      | 29, hk =>
        obtain rfl : (1252 : Int) = o := Option.some.inj hk
        refine ⟨1285, by decide, ?_⟩
        refine w_st rfl (fun _ => rfl) ?_
        refine w_st rfl (fun _ => rfl) ?_
        refine w_st rfl (fun _ => rfl) ?_
        refine w_st rfl (fun _ => rfl) ?_
        refine w_st rfl (fun _ => rfl) ?_
        show w_T L xs 60 m_L_law 1290 [(3, .int (Int32.ofInt (i : Int))), (2, .ref 100), (1, .ref 1), (0, .ref 0)] [.int ((Int32.ofInt (i : Int)) + (Int32.ofInt 1)), .ref 0, .ref 1] S R Q
        refine w_sld rfl (by first | (rw [← Int32.ofInt_add, q_ofr (by omega) (by omega)]; omega) | (rw [w_nat (by omega)]; omega)) (by first | (rw [← Int32.ofInt_add, q_ofr (by omega) (by omega)]; omega) | (rw [w_nat (by omega)]; omega)) ?_
        refine w_st rfl (fun _ => rfl) ?_
        refine w_st rfl (fun _ => rfl) ?_
        refine w_st rfl (fun _ => rfl) ?_
        refine w_st rfl (fun _ => rfl) ?_
        show w_T L xs 60 m_L_law 1295 [(3, .int (Int32.ofInt (i : Int))), (2, .ref 100), (1, .ref 1), (0, .ref 0)] [.int ((Int32.ofInt (i : Int)) + (Int32.ofInt 2)), .ref 0, .int (xs ((Int32.ofInt (i : Int)) + (Int32.ofInt 1)).toInt.toNat), .ref 1] S R Q
        refine w_sld rfl (by first | (rw [← Int32.ofInt_add, q_ofr (by omega) (by omega)]; omega) | (rw [w_nat (by omega)]; omega)) (by first | (rw [← Int32.ofInt_add, q_ofr (by omega) (by omega)]; omega) | (rw [w_nat (by omega)]; omega)) ?_
        show w_T L xs 60 m_L_law 1296 [(3, .int (Int32.ofInt (i : Int))), (2, .ref 100), (1, .ref 1), (0, .ref 0)] [.int (xs ((Int32.ofInt (i : Int)) + (Int32.ofInt 2)).toInt.toNat), .int (xs ((Int32.ofInt (i : Int)) + (Int32.ofInt 1)).toInt.toNat), .ref 1] S R Q
        refine w_cv rfl (by decide) mt_X11_round v_tyC rfl rfl rfl (Nat.le_of_ble_eq_true rfl) (Nat.le_of_ble_eq_true rfl) (Nat.le_of_ble_eq_true rfl) ?_
        show w_T L xs _ m_X11_round 0 (lv_args 0 [.ref 1, .int (xs ((Int32.ofInt (i : Int)) + (Int32.ofInt 1)).toInt.toNat), .int (xs ((Int32.ofInt (i : Int)) + (Int32.ofInt 2)).toInt.toNat)]) [] S R _
        refine a_X11_round _ _ hT hO hK (fun S1 R1 hT1 hO1 hP1 => ?_)
        refine w_st rfl (fun _ => rfl) ?_
        refine w_st rfl (fun _ => rfl) ?_
        refine w_st rfl (fun _ => rfl) ?_
        refine w_st rfl (fun _ => rfl) ?_
        refine w_st rfl (fun _ => rfl) ?_
        show w_T L xs 60 m_L_law 1304 [(3, .int (Int32.ofInt (i : Int))), (2, .ref 100), (1, .ref 1), (0, .ref 0)] [.int ((Int32.ofInt (i : Int)) + (Int32.ofInt 1)), .ref 0, .ref 100, .int (f_X12_round (xs ((Int32.ofInt (i : Int)) + (Int32.ofInt 1)).toInt.toNat) (xs ((Int32.ofInt (i : Int)) + (Int32.ofInt 2)).toInt.toNat) S1)] S1 R1 Q
        refine w_sld rfl (by first | (rw [← Int32.ofInt_add, q_ofr (by omega) (by omega)]; omega) | (rw [w_nat (by omega)]; omega)) (by first | (rw [← Int32.ofInt_add, q_ofr (by omega) (by omega)]; omega) | (rw [w_nat (by omega)]; omega)) ?_
        refine w_st rfl (fun _ => rfl) ?_
        refine w_st rfl (fun _ => rfl) ?_
        refine w_st rfl (fun _ => rfl) ?_
        refine w_st rfl (fun _ => rfl) ?_
        show w_T L xs 60 m_L_law 1309 [(3, .int (Int32.ofInt (i : Int))), (2, .ref 100), (1, .ref 1), (0, .ref 0)] [.int ((Int32.ofInt (i : Int)) + (Int32.ofInt 2)), .ref 0, .int (xs ((Int32.ofInt (i : Int)) + (Int32.ofInt 1)).toInt.toNat), .ref 100, .int (f_X12_round (xs ((Int32.ofInt (i : Int)) + (Int32.ofInt 1)).toInt.toNat) (xs ((Int32.ofInt (i : Int)) + (Int32.ofInt 2)).toInt.toNat) S1)] S1 R1 Q
        refine w_sld rfl (by first | (rw [← Int32.ofInt_add, q_ofr (by omega) (by omega)]; omega) | (rw [w_nat (by omega)]; omega)) (by first | (rw [← Int32.ofInt_add, q_ofr (by omega) (by omega)]; omega) | (rw [w_nat (by omega)]; omega)) ?_
        show w_T L xs 60 m_L_law 1310 [(3, .int (Int32.ofInt (i : Int))), (2, .ref 100), (1, .ref 1), (0, .ref 0)] [.int (xs ((Int32.ofInt (i : Int)) + (Int32.ofInt 2)).toInt.toNat), .int (xs ((Int32.ofInt (i : Int)) + (Int32.ofInt 1)).toInt.toNat), .ref 100, .int (f_X12_round (xs ((Int32.ofInt (i : Int)) + (Int32.ofInt 1)).toInt.toNat) (xs ((Int32.ofInt (i : Int)) + (Int32.ofInt 2)).toInt.toNat) S1)] S1 R1 Q
        refine w_cv rfl (by decide) mt_X12_round v_tyM rfl rfl rfl (Nat.le_of_ble_eq_true rfl) (Nat.le_of_ble_eq_true rfl) (Nat.le_of_ble_eq_true rfl) ?_
        show w_T L xs _ m_X12_round 0 (lv_args 0 [.ref 100, .int (xs ((Int32.ofInt (i : Int)) + (Int32.ofInt 1)).toInt.toNat), .int (xs ((Int32.ofInt (i : Int)) + (Int32.ofInt 2)).toInt.toNat)]) [] S1 R1 _
        refine a_X12_round _ _ hT1 hO1 hP1 (fun S2 R2 hT2 hO2 hK2 => ?_)
        generalize f_X12_round (xs ((Int32.ofInt (i : Int)) + (Int32.ofInt 1)).toInt.toNat) (xs ((Int32.ofInt (i : Int)) + (Int32.ofInt 2)).toInt.toNat) S1 = u_cmp
        show w_T L xs 60 m_L_law 1313 [(3, .int (Int32.ofInt (i : Int))), (2, .ref 100), (1, .ref 1), (0, .ref 0)] [.int u_cmp, .int u_cmp] S2 R2 Q
        refine w_br (P := u_cmp = u_cmp) rfl (fun _ => rfl) (fun h1313 => ?_) (fun h1313 => ?_)
        · exact tail S2 R2 hT2 hO2 hK2
        · exact absurd rfl h1313
      | 30, hk =>
        obtain rfl : (1285 : Int) = o := Option.some.inj hk
        refine ⟨1318, by decide, ?_⟩
        refine w_st rfl (fun _ => rfl) ?_
        refine w_st rfl (fun _ => rfl) ?_
        refine w_st rfl (fun _ => rfl) ?_
        refine w_st rfl (fun _ => rfl) ?_
        refine w_st rfl (fun _ => rfl) ?_
        show w_T L xs 60 m_L_law 1323 [(3, .int (Int32.ofInt (i : Int))), (2, .ref 100), (1, .ref 1), (0, .ref 0)] [.int ((Int32.ofInt (i : Int)) + (Int32.ofInt 1)), .ref 0, .ref 1] S R Q
        refine w_sld rfl (by first | (rw [← Int32.ofInt_add, q_ofr (by omega) (by omega)]; omega) | (rw [w_nat (by omega)]; omega)) (by first | (rw [← Int32.ofInt_add, q_ofr (by omega) (by omega)]; omega) | (rw [w_nat (by omega)]; omega)) ?_
        refine w_st rfl (fun _ => rfl) ?_
        refine w_st rfl (fun _ => rfl) ?_
        refine w_st rfl (fun _ => rfl) ?_
        refine w_st rfl (fun _ => rfl) ?_
        show w_T L xs 60 m_L_law 1328 [(3, .int (Int32.ofInt (i : Int))), (2, .ref 100), (1, .ref 1), (0, .ref 0)] [.int ((Int32.ofInt (i : Int)) + (Int32.ofInt 2)), .ref 0, .int (xs ((Int32.ofInt (i : Int)) + (Int32.ofInt 1)).toInt.toNat), .ref 1] S R Q
        refine w_sld rfl (by first | (rw [← Int32.ofInt_add, q_ofr (by omega) (by omega)]; omega) | (rw [w_nat (by omega)]; omega)) (by first | (rw [← Int32.ofInt_add, q_ofr (by omega) (by omega)]; omega) | (rw [w_nat (by omega)]; omega)) ?_
        show w_T L xs 60 m_L_law 1329 [(3, .int (Int32.ofInt (i : Int))), (2, .ref 100), (1, .ref 1), (0, .ref 0)] [.int (xs ((Int32.ofInt (i : Int)) + (Int32.ofInt 2)).toInt.toNat), .int (xs ((Int32.ofInt (i : Int)) + (Int32.ofInt 1)).toInt.toNat), .ref 1] S R Q
        refine w_cv rfl (by decide) mt_X11_added v_tyC rfl rfl rfl (Nat.le_of_ble_eq_true rfl) (Nat.le_of_ble_eq_true rfl) (Nat.le_of_ble_eq_true rfl) ?_
        show w_T L xs _ m_X11_added 0 (lv_args 0 [.ref 1, .int (xs ((Int32.ofInt (i : Int)) + (Int32.ofInt 1)).toInt.toNat), .int (xs ((Int32.ofInt (i : Int)) + (Int32.ofInt 2)).toInt.toNat)]) [] S R _
        refine b_X11_added _ _ hT hO hK (fun S1 R1 u1 hT1 hO1 hK1 => ?_)
        refine w_st rfl (fun _ => rfl) ?_
        refine w_st rfl (fun _ => rfl) ?_
        refine w_st rfl (fun _ => rfl) ?_
        refine w_st rfl (fun _ => rfl) ?_
        refine w_st rfl (fun _ => rfl) ?_
        refine w_st rfl (fun _ => rfl) ?_
        show w_T L xs 60 m_L_law 1338 [(3, .int (Int32.ofInt (i : Int))), (2, .ref 100), (1, .ref 1), (0, .ref 0)] [.int ((Int32.ofInt (i : Int)) + (Int32.ofInt 1)), .ref 0, .ref 100] S1 R1 Q
        refine w_sld rfl (by first | (rw [← Int32.ofInt_add, q_ofr (by omega) (by omega)]; omega) | (rw [w_nat (by omega)]; omega)) (by first | (rw [← Int32.ofInt_add, q_ofr (by omega) (by omega)]; omega) | (rw [w_nat (by omega)]; omega)) ?_
        refine w_st rfl (fun _ => rfl) ?_
        refine w_st rfl (fun _ => rfl) ?_
        refine w_st rfl (fun _ => rfl) ?_
        refine w_st rfl (fun _ => rfl) ?_
        show w_T L xs 60 m_L_law 1343 [(3, .int (Int32.ofInt (i : Int))), (2, .ref 100), (1, .ref 1), (0, .ref 0)] [.int ((Int32.ofInt (i : Int)) + (Int32.ofInt 2)), .ref 0, .int (xs ((Int32.ofInt (i : Int)) + (Int32.ofInt 1)).toInt.toNat), .ref 100] S1 R1 Q
        refine w_sld rfl (by first | (rw [← Int32.ofInt_add, q_ofr (by omega) (by omega)]; omega) | (rw [w_nat (by omega)]; omega)) (by first | (rw [← Int32.ofInt_add, q_ofr (by omega) (by omega)]; omega) | (rw [w_nat (by omega)]; omega)) ?_
        show w_T L xs 60 m_L_law 1344 [(3, .int (Int32.ofInt (i : Int))), (2, .ref 100), (1, .ref 1), (0, .ref 0)] [.int (xs ((Int32.ofInt (i : Int)) + (Int32.ofInt 2)).toInt.toNat), .int (xs ((Int32.ofInt (i : Int)) + (Int32.ofInt 1)).toInt.toNat), .ref 100] S1 R1 Q
        refine w_cv rfl (by decide) mt_X12_added v_tyM rfl rfl rfl (Nat.le_of_ble_eq_true rfl) (Nat.le_of_ble_eq_true rfl) (Nat.le_of_ble_eq_true rfl) ?_
        show w_T L xs _ m_X12_added 0 (lv_args 0 [.ref 100, .int (xs ((Int32.ofInt (i : Int)) + (Int32.ofInt 1)).toInt.toNat), .int (xs ((Int32.ofInt (i : Int)) + (Int32.ofInt 2)).toInt.toNat)]) [] S1 R1 _
        refine b_X12_added _ _ hT1 hO1 hK1 (fun S2 R2 u2 hT2 hO2 hK2 => ?_)
        refine w_st rfl (fun _ => rfl) ?_
        refine w_st rfl (fun _ => rfl) ?_
        show w_T L xs 60 m_L_law 1446 [(3, .int (Int32.ofInt (i : Int))), (2, .ref 100), (1, .ref 1), (0, .ref 0)] [] S2 R2 Q
        exact tail S2 R2 hT2 hO2 hK2
      | 31, hk =>
        obtain rfl : (1318 : Int) = o := Option.some.inj hk
        refine ⟨1351, by decide, ?_⟩
        refine w_st rfl (fun _ => rfl) ?_
        refine w_st rfl (fun _ => rfl) ?_
        refine w_st rfl (fun _ => rfl) ?_
        refine w_st rfl (fun _ => rfl) ?_
        refine w_st rfl (fun _ => rfl) ?_
        show w_T L xs 60 m_L_law 1356 [(3, .int (Int32.ofInt (i : Int))), (2, .ref 100), (1, .ref 1), (0, .ref 0)] [.int ((Int32.ofInt (i : Int)) + (Int32.ofInt 1)), .ref 0, .ref 1] S R Q
        refine w_sld rfl (by first | (rw [← Int32.ofInt_add, q_ofr (by omega) (by omega)]; omega) | (rw [w_nat (by omega)]; omega)) (by first | (rw [← Int32.ofInt_add, q_ofr (by omega) (by omega)]; omega) | (rw [w_nat (by omega)]; omega)) ?_
        show w_T L xs 60 m_L_law 1357 [(3, .int (Int32.ofInt (i : Int))), (2, .ref 100), (1, .ref 1), (0, .ref 0)] [.int (xs ((Int32.ofInt (i : Int)) + (Int32.ofInt 1)).toInt.toNat), .ref 1] S R Q
        refine w_cv rfl (by decide) mt_X11_seed v_tyC rfl rfl rfl (Nat.le_of_ble_eq_true rfl) (Nat.le_of_ble_eq_true rfl) (Nat.le_of_ble_eq_true rfl) ?_
        show w_T L xs _ m_X11_seed 0 (lv_args 0 [.ref 1, .int (xs ((Int32.ofInt (i : Int)) + (Int32.ofInt 1)).toInt.toNat)]) [] S R _
        refine b_X11_seed _ hT hO hK (fun S1 R1 hT1 hO1 hP1 => ?_)
        refine w_st rfl (fun _ => rfl) ?_
        refine w_st rfl (fun _ => rfl) ?_
        refine w_st rfl (fun _ => rfl) ?_
        refine w_st rfl (fun _ => rfl) ?_
        refine w_st rfl (fun _ => rfl) ?_
        refine w_st rfl (fun _ => rfl) ?_
        show w_T L xs 60 m_L_law 1366 [(3, .int (Int32.ofInt (i : Int))), (2, .ref 100), (1, .ref 1), (0, .ref 0)] [.int ((Int32.ofInt (i : Int)) + (Int32.ofInt 1)), .ref 0, .ref 100] S1 R1 Q
        refine w_sld rfl (by first | (rw [← Int32.ofInt_add, q_ofr (by omega) (by omega)]; omega) | (rw [w_nat (by omega)]; omega)) (by first | (rw [← Int32.ofInt_add, q_ofr (by omega) (by omega)]; omega) | (rw [w_nat (by omega)]; omega)) ?_
        show w_T L xs 60 m_L_law 1367 [(3, .int (Int32.ofInt (i : Int))), (2, .ref 100), (1, .ref 1), (0, .ref 0)] [.int (xs ((Int32.ofInt (i : Int)) + (Int32.ofInt 1)).toInt.toNat), .ref 100] S1 R1 Q
        refine w_cv rfl (by decide) mt_X12_seed v_tyM rfl rfl rfl (Nat.le_of_ble_eq_true rfl) (Nat.le_of_ble_eq_true rfl) (Nat.le_of_ble_eq_true rfl) ?_
        show w_T L xs _ m_X12_seed 0 (lv_args 0 [.ref 100, .int (xs ((Int32.ofInt (i : Int)) + (Int32.ofInt 1)).toInt.toNat)]) [] S1 R1 _
        refine b_X12_seed _ hT1 hO1 hP1 (fun S2 R2 hT2 hO2 hK2 => ?_)
        refine w_st rfl (fun _ => rfl) ?_
        refine w_st rfl (fun _ => rfl) ?_
        show w_T L xs 60 m_L_law 1446 [(3, .int (Int32.ofInt (i : Int))), (2, .ref 100), (1, .ref 1), (0, .ref 0)] [] S2 R2 Q
        exact tail S2 R2 hT2 hO2 hK2
      | 32, hk =>
        obtain rfl : (1341 : Int) = o := Option.some.inj hk
        refine ⟨1374, by decide, ?_⟩
        refine w_st rfl (fun _ => rfl) ?_
        show w_T L xs 60 m_L_law 1375 [(3, .int (Int32.ofInt (i : Int))), (2, .ref 100), (1, .ref 1), (0, .ref 0)] [.ref 1] S R Q
        refine w_cv rfl (by decide) mt_X11_keep v_tyC rfl rfl rfl (Nat.le_of_ble_eq_true rfl) (Nat.le_of_ble_eq_true rfl) (Nat.le_of_ble_eq_true rfl) ?_
        show w_T L xs _ m_X11_keep 0 (lv_args 0 [.ref 1]) [] S R _
        refine b_X11_keep hT hO hK (fun S1 R1 hT1 hO1 hP1 => ?_)
        refine w_st rfl (fun _ => rfl) ?_
        refine w_st rfl (fun _ => rfl) ?_
        show w_T L xs 60 m_L_law 1380 [(3, .int (Int32.ofInt (i : Int))), (2, .ref 100), (1, .ref 1), (0, .ref 0)] [.ref 100] S1 R1 Q
        refine w_cv rfl (by decide) mt_X12_keep v_tyM rfl rfl rfl (Nat.le_of_ble_eq_true rfl) (Nat.le_of_ble_eq_true rfl) (Nat.le_of_ble_eq_true rfl) ?_
        show w_T L xs _ m_X12_keep 0 (lv_args 0 [.ref 100]) [] S1 R1 _
        refine b_X12_keep hT1 hO1 hP1 (fun S2 R2 hT2 hO2 hK2 => ?_)
        refine w_st rfl (fun _ => rfl) ?_
        refine w_st rfl (fun _ => rfl) ?_
        show w_T L xs 60 m_L_law 1446 [(3, .int (Int32.ofInt (i : Int))), (2, .ref 100), (1, .ref 1), (0, .ref 0)] [] S2 R2 Q
        exact tail S2 R2 hT2 hO2 hK2
      | 33, hk =>
        obtain rfl : (1354 : Int) = o := Option.some.inj hk
        refine ⟨1387, by decide, ?_⟩
        refine w_st rfl (fun _ => rfl) ?_
        show w_T L xs 60 m_L_law 1388 [(3, .int (Int32.ofInt (i : Int))), (2, .ref 100), (1, .ref 1), (0, .ref 0)] [.ref 1] S R Q
        refine w_cv rfl (by decide) mt_X11_undo v_tyC rfl rfl rfl (Nat.le_of_ble_eq_true rfl) (Nat.le_of_ble_eq_true rfl) (Nat.le_of_ble_eq_true rfl) ?_
        show w_T L xs _ m_X11_undo 0 (lv_args 0 [.ref 1]) [] S R _
        refine b_X11_undo hT hO hK (fun S1 R1 hT1 hO1 hP1 => ?_)
        refine w_st rfl (fun _ => rfl) ?_
        refine w_st rfl (fun _ => rfl) ?_
        show w_T L xs 60 m_L_law 1393 [(3, .int (Int32.ofInt (i : Int))), (2, .ref 100), (1, .ref 1), (0, .ref 0)] [.ref 100] S1 R1 Q
        refine w_cv rfl (by decide) mt_X12_undo v_tyM rfl rfl rfl (Nat.le_of_ble_eq_true rfl) (Nat.le_of_ble_eq_true rfl) (Nat.le_of_ble_eq_true rfl) ?_
        show w_T L xs _ m_X12_undo 0 (lv_args 0 [.ref 100]) [] S1 R1 _
        refine b_X12_undo hT1 hO1 hP1 (fun S2 R2 hT2 hO2 hK2 => ?_)
        refine w_st rfl (fun _ => rfl) ?_
        refine w_st rfl (fun _ => rfl) ?_
        show w_T L xs 60 m_L_law 1446 [(3, .int (Int32.ofInt (i : Int))), (2, .ref 100), (1, .ref 1), (0, .ref 0)] [] S2 R2 Q
        exact tail S2 R2 hT2 hO2 hK2
      | 34, hk =>
        obtain rfl : (1367 : Int) = o := Option.some.inj hk
        refine ⟨1400, by decide, ?_⟩
        refine w_st rfl (fun _ => rfl) ?_
        refine w_st rfl (fun _ => rfl) ?_
        refine w_st rfl (fun _ => rfl) ?_
        refine w_st rfl (fun _ => rfl) ?_
        refine w_st rfl (fun _ => rfl) ?_
        show w_T L xs 60 m_L_law 1405 [(3, .int (Int32.ofInt (i : Int))), (2, .ref 100), (1, .ref 1), (0, .ref 0)] [.int ((Int32.ofInt (i : Int)) + (Int32.ofInt 1)), .ref 0, .ref 1] S R Q
        refine w_sld rfl (by first | (rw [← Int32.ofInt_add, q_ofr (by omega) (by omega)]; omega) | (rw [w_nat (by omega)]; omega)) (by first | (rw [← Int32.ofInt_add, q_ofr (by omega) (by omega)]; omega) | (rw [w_nat (by omega)]; omega)) ?_
        show w_T L xs 60 m_L_law 1406 [(3, .int (Int32.ofInt (i : Int))), (2, .ref 100), (1, .ref 1), (0, .ref 0)] [.int (xs ((Int32.ofInt (i : Int)) + (Int32.ofInt 1)).toInt.toNat), .ref 1] S R Q
        refine w_cv rfl (by decide) mt_X11_check v_tyC rfl rfl rfl (Nat.le_of_ble_eq_true rfl) (Nat.le_of_ble_eq_true rfl) (Nat.le_of_ble_eq_true rfl) ?_
        show w_T L xs _ m_X11_check 0 (lv_args 0 [.ref 1, .int (xs ((Int32.ofInt (i : Int)) + (Int32.ofInt 1)).toInt.toNat)]) [] S R _
        refine b_X11_check _ hT hO hK (fun S1 R1 hT1 hO1 hP1 => ?_)
        refine w_st rfl (fun _ => rfl) ?_
        refine w_st rfl (fun _ => rfl) ?_
        refine w_st rfl (fun _ => rfl) ?_
        refine w_st rfl (fun _ => rfl) ?_
        refine w_st rfl (fun _ => rfl) ?_
        refine w_st rfl (fun _ => rfl) ?_
        show w_T L xs 60 m_L_law 1415 [(3, .int (Int32.ofInt (i : Int))), (2, .ref 100), (1, .ref 1), (0, .ref 0)] [.int ((Int32.ofInt (i : Int)) + (Int32.ofInt 1)), .ref 0, .ref 100] S1 R1 Q
        refine w_sld rfl (by first | (rw [← Int32.ofInt_add, q_ofr (by omega) (by omega)]; omega) | (rw [w_nat (by omega)]; omega)) (by first | (rw [← Int32.ofInt_add, q_ofr (by omega) (by omega)]; omega) | (rw [w_nat (by omega)]; omega)) ?_
        show w_T L xs 60 m_L_law 1416 [(3, .int (Int32.ofInt (i : Int))), (2, .ref 100), (1, .ref 1), (0, .ref 0)] [.int (xs ((Int32.ofInt (i : Int)) + (Int32.ofInt 1)).toInt.toNat), .ref 100] S1 R1 Q
        refine w_cv rfl (by decide) mt_X12_check v_tyM rfl rfl rfl (Nat.le_of_ble_eq_true rfl) (Nat.le_of_ble_eq_true rfl) (Nat.le_of_ble_eq_true rfl) ?_
        show w_T L xs _ m_X12_check 0 (lv_args 0 [.ref 100, .int (xs ((Int32.ofInt (i : Int)) + (Int32.ofInt 1)).toInt.toNat)]) [] S1 R1 _
        refine b_X12_check _ hT1 hO1 hP1 (fun S2 R2 hT2 hO2 hK2 => ?_)
        refine w_st rfl (fun _ => rfl) ?_
        refine w_st rfl (fun _ => rfl) ?_
        show w_T L xs 60 m_L_law 1446 [(3, .int (Int32.ofInt (i : Int))), (2, .ref 100), (1, .ref 1), (0, .ref 0)] [] S2 R2 Q
        exact tail S2 R2 hT2 hO2 hK2
      | 35, hk =>
        obtain rfl : (1390 : Int) = o := Option.some.inj hk
        refine ⟨1423, by decide, ?_⟩
        refine w_st rfl (fun _ => rfl) ?_
        refine w_st rfl (fun _ => rfl) ?_
        refine w_st rfl (fun _ => rfl) ?_
        refine w_st rfl (fun _ => rfl) ?_
        refine w_st rfl (fun _ => rfl) ?_
        show w_T L xs 60 m_L_law 1428 [(3, .int (Int32.ofInt (i : Int))), (2, .ref 100), (1, .ref 1), (0, .ref 0)] [.int ((Int32.ofInt (i : Int)) + (Int32.ofInt 1)), .ref 0, .ref 1] S R Q
        refine w_sld rfl (by first | (rw [← Int32.ofInt_add, q_ofr (by omega) (by omega)]; omega) | (rw [w_nat (by omega)]; omega)) (by first | (rw [← Int32.ofInt_add, q_ofr (by omega) (by omega)]; omega) | (rw [w_nat (by omega)]; omega)) ?_
        show w_T L xs 60 m_L_law 1429 [(3, .int (Int32.ofInt (i : Int))), (2, .ref 100), (1, .ref 1), (0, .ref 0)] [.int (xs ((Int32.ofInt (i : Int)) + (Int32.ofInt 1)).toInt.toNat), .ref 1] S R Q
        refine w_cv rfl (by decide) mt_X11_count v_tyC rfl rfl rfl (Nat.le_of_ble_eq_true rfl) (Nat.le_of_ble_eq_true rfl) (Nat.le_of_ble_eq_true rfl) ?_
        show w_T L xs _ m_X11_count 0 (lv_args 0 [.ref 1, .int (xs ((Int32.ofInt (i : Int)) + (Int32.ofInt 1)).toInt.toNat)]) [] S R _
        refine b_X11_count _ hT hO hK (fun S1 R1 u1 hT1 hO1 hK1 => ?_)
        refine w_st rfl (fun _ => rfl) ?_
        refine w_st rfl (fun _ => rfl) ?_
        refine w_st rfl (fun _ => rfl) ?_
        refine w_st rfl (fun _ => rfl) ?_
        refine w_st rfl (fun _ => rfl) ?_
        refine w_st rfl (fun _ => rfl) ?_
        show w_T L xs 60 m_L_law 1438 [(3, .int (Int32.ofInt (i : Int))), (2, .ref 100), (1, .ref 1), (0, .ref 0)] [.int ((Int32.ofInt (i : Int)) + (Int32.ofInt 1)), .ref 0, .ref 100] S1 R1 Q
        refine w_sld rfl (by first | (rw [← Int32.ofInt_add, q_ofr (by omega) (by omega)]; omega) | (rw [w_nat (by omega)]; omega)) (by first | (rw [← Int32.ofInt_add, q_ofr (by omega) (by omega)]; omega) | (rw [w_nat (by omega)]; omega)) ?_
        show w_T L xs 60 m_L_law 1439 [(3, .int (Int32.ofInt (i : Int))), (2, .ref 100), (1, .ref 1), (0, .ref 0)] [.int (xs ((Int32.ofInt (i : Int)) + (Int32.ofInt 1)).toInt.toNat), .ref 100] S1 R1 Q
        refine w_cv rfl (by decide) mt_X12_count v_tyM rfl rfl rfl (Nat.le_of_ble_eq_true rfl) (Nat.le_of_ble_eq_true rfl) (Nat.le_of_ble_eq_true rfl) ?_
        show w_T L xs _ m_X12_count 0 (lv_args 0 [.ref 100, .int (xs ((Int32.ofInt (i : Int)) + (Int32.ofInt 1)).toInt.toNat)]) [] S1 R1 _
        refine b_X12_count _ hT1 hO1 hK1 (fun S2 R2 u2 hT2 hO2 hK2 => ?_)
        refine w_st rfl (fun _ => rfl) ?_
        refine w_st rfl (fun _ => rfl) ?_
        show w_T L xs 60 m_L_law 1446 [(3, .int (Int32.ofInt (i : Int))), (2, .ref 100), (1, .ref 1), (0, .ref 0)] [] S2 R2 Q
        exact tail S2 R2 hT2 hO2 hK2
      | n + 36, hk => exact absurd hk (by simp)
