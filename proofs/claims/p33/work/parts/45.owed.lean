/-! what is owed of the pure machine -/
theorem v_w1_e : v_w1 = some (none, v_s1) := by
  have h := v_w1_ok
  rw [Bool.and_eq_true] at h
  have h1 := h.1
  unfold v_s1
  generalize v_w1 = w at h1 ⊢
  unfold v_isV at h1
  split at h1
  · rfl
  · cases h1
theorem v_w2_e : v_w2 = some (none, v_s0) := by
  have h1 := v_w2_ok
  unfold v_s0
  generalize v_w2 = w at h1 ⊢
  unfold v_isV at h1
  split at h1
  · rfl
  · cases h1
theorem v_s1_len : v_s1.length = 99 := by
  have h := v_w1_ok
  rw [Bool.and_eq_true] at h
  exact Nat.eq_of_beq_eq_true h.2
set_option maxRecDepth 20000 in
theorem p_owed (L : Nat) (hL : L ≤ 3072) (xs : Nat → Int32) : g_Owed L xs := by
  obtain ⟨n, r, S', R', h1, h2⟩ := l_loop (xs := xs) hL 512 0 v_S0 v_R0 (by omega) (by omega) v_S0_Tb v_S0_Op
  rw [← v_s0_mk] at h1
  have c1 : ∀ k, g_run g_mt L xs (3000 + k) 59 m_X11_init 0 [(0, .ref 1)] [] [.inr (11, g_df 11)] = some (none, v_s1) := fun k => g_run_m L xs k (g_rC_ok L xs _ _ _ _ _ _ _ _ v_w1_e)
  have c2 : ∀ k, g_run g_mt L xs (3000 + k) 59 m_X12_init 0 [(0, .ref 100)] [] (v_s1 ++ [.inr (12, g_df 12)]) = some (none, v_s0) := fun k => g_run_m L xs k (g_rC_ok L xs _ _ _ _ _ _ _ _ v_w2_e)
  refine ⟨3000 + (n + 10), (r, v_mk v_ty S' R'), ?_, h2, ?_, ?_⟩
  · show g_run g_mt L xs ((3000 + (n + 9)) + 1) 60 m_L_law 0 [(0, .ref 0)] [] [] = _
    rw [g_run_step (q := (3, [(0, .ref 0)], [.ref 1], [.inr (11, g_df 11)])) rfl rfl]
    show g_run g_mt L xs ((3000 + (n + 8)) + 1) 60 m_L_law 3 [(0, .ref 0)] [.ref 1] [.inr (11, g_df 11)] = _
    rw [g_run_step (q := (4, [(0, .ref 0)], [.ref 1, .ref 1], [.inr (11, g_df 11)])) rfl rfl]
    show g_run g_mt L xs ((3000 + (n + 7)) + 1) (59 + 1) m_L_law 4 [(0, .ref 0)] [.ref 1, .ref 1] [.inr (11, g_df 11)] = _
    rw [g_run_call (M' := m_X11_init) (q := ([.ref 1], [.ref 1])) (w := (none, v_s1)) rfl rfl rfl rfl rfl mt_X11_init rfl (Nat.le_of_ble_eq_true rfl) (Nat.le_of_ble_eq_true rfl) (c1 (n + 7))]
    show g_run g_mt L xs ((3000 + (n + 6)) + 1) 60 m_L_law 7 [(0, .ref 0)] [.ref 1] v_s1 = _
    rw [g_run_step (q := (8, [(1, .ref 1), (0, .ref 0)], [], v_s1)) rfl rfl]
    show g_run g_mt L xs ((3000 + (n + 5)) + 1) 60 m_L_law 8 [(1, .ref 1), (0, .ref 0)] [] v_s1 = _
    have hnew : g_step 60 m_L_law.2.2.2.1 L xs ((.new 10, 3), 12, 0, 1) 8 [(1, .ref 1), (0, .ref 0)] [] v_s1 = some (11, [(1, .ref 1), (0, .ref 0)], [.ref 100], v_s1 ++ [.inr (12, g_df 12)]) := by
      show some (11, _, [Value.ref (v_s1.length + 1)], _) = _
      rw [v_s1_len]
    rw [g_run_step rfl hnew]
    show g_run g_mt L xs ((3000 + (n + 4)) + 1) 60 m_L_law 11 [(1, .ref 1), (0, .ref 0)] [.ref 100] (v_s1 ++ [.inr (12, g_df 12)]) = _
    rw [g_run_step (q := (12, [(1, .ref 1), (0, .ref 0)], [.ref 100, .ref 100], v_s1 ++ [.inr (12, g_df 12)])) rfl rfl]
    show g_run g_mt L xs ((3000 + (n + 3)) + 1) (59 + 1) m_L_law 12 [(1, .ref 1), (0, .ref 0)] [.ref 100, .ref 100] (v_s1 ++ [.inr (12, g_df 12)]) = _
    rw [g_run_call (M' := m_X12_init) (q := ([.ref 100], [.ref 100])) (w := (none, v_s0)) rfl rfl rfl rfl rfl mt_X12_init rfl (Nat.le_of_ble_eq_true rfl) (Nat.le_of_ble_eq_true rfl) (c2 (n + 3))]
    show g_run g_mt L xs ((3000 + (n + 2)) + 1) 60 m_L_law 15 [(1, .ref 1), (0, .ref 0)] [.ref 100] v_s0 = _
    rw [g_run_step (q := (16, [(2, .ref 100), (1, .ref 1), (0, .ref 0)], [], v_s0)) rfl rfl]
    show g_run g_mt L xs ((3000 + (n + 1)) + 1) 60 m_L_law 16 [(2, .ref 100), (1, .ref 1), (0, .ref 0)] [] v_s0 = _
    rw [g_run_step (q := (17, [(2, .ref 100), (1, .ref 1), (0, .ref 0)], [.int (Int32.ofInt 0)], v_s0)) rfl rfl]
    show g_run g_mt L xs ((3000 + n) + 1) 60 m_L_law 17 [(2, .ref 100), (1, .ref 1), (0, .ref 0)] [.int (Int32.ofInt 0)] v_s0 = _
    rw [g_run_step (q := (18, [(3, .int (Int32.ofInt 0)), (2, .ref 100), (1, .ref 1), (0, .ref 0)], [], v_s0)) rfl rfl]
    have := h1 3000
    rw [Nat.add_comm n 3000] at this
    exact this
  · show (v_mk v_ty S' R').length ≤ 600000
    rw [v_mk_len]
    decide
  · show g_sl (v_mk v_ty S' R') ≤ 7302250
    rw [v_mk_sl]
    exact Nat.le_of_ble_eq_true v_mk_sl0
